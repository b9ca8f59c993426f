
set_option maxHeartbeats 4000000 in
set_option maxRecDepth 100000 in
/-- the law's loop -/
theorem lw_loop {p : Program} {l : Launch} {e : Env} {s : State} {m : MethodId} {below : List Frame} {meth : Method} {c : Code} {D : va_G} {q : wz_Q} {bs L : Nat} {xs : Nat → Int32} (hx : p.tables.exec = Jvm.exec) (hb : c.code = code) (hml : c.maxLocals = 4) (hown : s.vm.findClass "TwoEndSearchLaw" = some m.cls) (hts : ∀ w ∈ bigW, w.before #[Value.ref bs] s = true) (hN : wz_N wz_L s) (hK : va_K D vwCl (wz_ty q) s) (hX : va_X bs L xs s s.heap) (hbl : bs < s.heap.size) (hL : L ≤ 2049) (hr : meth.sig.returnType = ret) (hlocks : meth.locks = false) {ax n : Nat} {az : Nat → Nat} : ∀ (d i : Nat), i ≤ L + 4 → L + 5 ≤ i + d → ∀ (k : Nat) (sg tu : Nat → Nat → Nat) (od : Nat → Nat) (sa gl : Nat) (F : cx_F) (WX : wz_G) (th kn bk : Int32) (sz : Nat) (fd : Int32) (ln : Nat) (fm : Int32) (fw : Int64) (to fo sb gb st sp : Nat → Int32) (wy : Nat → Int64) (se ms ts r1 r2 : Nat → Int32), cx q ax n k sg tu od sa gl F WX → cz_h n k sg tu od sa gl F kn bk sz fd ln fw to fo sb gb st sp wy se ms ts → ∀ (H : Heap) (locs : List Loc) (ls : Array Slot), va_P D vwCl ([WX.flatten, zo_W q az th n k kn bk sz fd ln fm fw, zt_W q az to fo, zs_W q az sb gb, zb_W q az st sp wy se, zf_W q az ms ts, zq_W q az r1 r2] : wz_G).flatten H → va_D (fun k9 : Nat => s.heap.size ≤ k9) ([WX.flatten, zo_W q az th n k kn bk sz fd ln fm fw, zt_W q az to fo, zs_W q az sb gb, zb_W q az st sp wy se, zf_W q az ms ts, zq_W q az r1 r2] : wz_G).flatten → va_S (fun k9 : Nat => s.heap.size ≤ k9) s.heap H locs → lv_has ls 4 [(0, .ref bs), (1, .ref ax), (2, .ref (az 0)), (3, .int (nI i))] → W p l e room_1 s m #[Value.ref bs] below meth c H locs 600000 7302250 (lw_Z below #[Value.ref bs] s) (F0 m 28 ls []) := by
  have hA : ∀ k9 : Nat, s.heap.size ≤ k9 → (fun k9 : Nat => s.heap.size ≤ k9) k9 := fun _ h => h
  have hbA : ¬ (fun k9 : Nat => s.heap.size ≤ k9) bs := Nat.not_le.mpr hbl
  intro d
  induction d with
  | zero => intro i h1 h2; omega
  | succ d ih =>
    intro i hi1 hi2 k sg tu od sa gl F WX th kn bk sz fd ln fm fw to fo sb gb st sp wy se ms ts r1 r2 hcx hcz H locs ls hP hD hS hl
    refine lv_iload_n hx hb d_L_law_28 rfl (lv_at hl 3 rfl) ?_
    refine lv_aload_n hx hb d_L_law_29 rfl (lv_at hl 0 rfl) ?_
    refine va_slen hx hb hX hbl hbA hS d_L_law_30 ?_
    refine lv_iconst (v := nI 4) hx hb d_L_law_31 (by decide) ?_
    refine lv_isub hx hb d_L_law_32 ?_
    refine wz_topi (y := (nI L - nI 4)) rfl ?_
    refine lv_icmp_gt (tgt := 460) hx hb d_L_law_33 (by decide) (fun hc => ?_) (fun hc => ?_)
    · skip
      refine lv_iconst (v := nI 1) hx hb d_L_law_460 (by decide) ?_
      refine va_forget (fun q9 hq9 => hS.2.2 q9 hq9) ?_
      exact lw_ret hx hb hr hlocks d_L_law_461
    · skip
      have hi4 : i + 4 ≤ L := by
        have h1 : ¬ (nI L - nI 4) < nI i := hc
        have h2 := (not_congr Int32.lt_iff_toInt_lt).mp h1
        rw [pk_sub_toInt (by omega) (by omega), nI_toInt (by omega)] at h2
        omega
      have hk9 : ∀ (k : Nat) (sg tu : Nat → Nat → Nat) (od : Nat → Nat) (sa gl : Nat) (F : cx_F) (WX : wz_G) (th kn bk : Int32) (sz : Nat) (fd : Int32) (ln : Nat) (fm : Int32) (fw : Int64) (to fo sb gb st sp : Nat → Int32) (wy : Nat → Int64) (se ms ts r1 r2 : Nat → Int32), cx q ax n k sg tu od sa gl F WX → cz_h n k sg tu od sa gl F kn bk sz fd ln fw to fo sb gb st sp wy se ms ts → ∀ (H : Heap) (locs : List Loc) (ls : Array Slot), va_P D vwCl ([WX.flatten, zo_W q az th n k kn bk sz fd ln fm fw, zt_W q az to fo, zs_W q az sb gb, zb_W q az st sp wy se, zf_W q az ms ts, zq_W q az r1 r2] : wz_G).flatten H → va_D (fun k9 : Nat => s.heap.size ≤ k9) ([WX.flatten, zo_W q az th n k kn bk sz fd ln fm fw, zt_W q az to fo, zs_W q az sb gb, zb_W q az st sp wy se, zf_W q az ms ts, zq_W q az r1 r2] : wz_G).flatten → va_S (fun k9 : Nat => s.heap.size ≤ k9) s.heap H locs → lv_has ls 4 [(0, .ref bs), (1, .ref ax), (2, .ref (az 0)), (3, .int (nI i))] → W p l e room_1 s m #[Value.ref bs] below meth c H locs 600000 7302250 (lw_Z below #[Value.ref bs] s) (F0 m 454 ls []) := by
        intro k sg tu od sa gl F WX th kn bk sz fd ln fm fw to fo sb gb st sp wy se ms ts r1 r2 hcx hcz H locs ls hP hD hS hl
        refine lv_iinc (v := nI (i + 4)) (lv' := [(3, .int (nI (i + 4))), (0, .ref bs), (1, .ref ax), (2, .ref (az 0))]) hx hb d_L_law_454 hl (k := 3) rfl (nI_add i 4) (by decide) rfl (fun ls hl => ?_)
        refine lv_goto (tgt := 28) hx hb d_L_law_457 (by decide) ?_
        exact ih (i + 4) (by omega) (by omega) k sg tu od sa gl F WX th kn bk sz fd ln fm fw to fo sb gb st sp wy se ms ts r1 r2 hcx hcz _ _ _ hP hD hS (lv_sub hl [1, 2, 3, 0] rfl)
      refine lv_aload_n hx hb d_L_law_36 rfl (lv_at hl 0 rfl) ?_
      refine lv_iload_n hx hb d_L_law_37 rfl (lv_at hl 3 rfl) ?_
      refine va_sld hx hb hX hbl hbA hS (vp_in_nI (n := i) (N := L) (by omega) (by omega)) d_L_law_38 ?_
      refine wz_topi (y := xs i) (congrArg xs (nI_clamp (by omega))) ?_
      refine lv_bipush (v := nI 15) hx hb d_L_law_39 (by decide) ?_
      refine lv_iand hx hb d_L_law_41 ?_
      obtain ⟨v9, hv9, hw9⟩ := pk_andE (xs i) (m := nI 15) 4 (by decide)
      have hv9 : v9 < 16 := hv9
      refine wz_topi (y := nI v9) hw9 ?_
      have hvi : (nI v9).toInt = (v9 : Int) := nI_toInt (by omega)
      rcases (show v9 = 0 ∨ v9 = 1 ∨ v9 = 2 ∨ v9 = 3 ∨ v9 = 4 ∨ v9 = 5 ∨ v9 = 6 ∨ v9 = 7 ∨ v9 = 8 ∨ v9 = 9 ∨ v9 = 10 ∨ 11 ≤ v9 by omega) with rfl | rfl | rfl | rfl | rfl | rfl | rfl | rfl | rfl | rfl | rfl | hv9
      · refine lv_tableIn (off := 58) (tgt := 100) hx hb d_L_law_42 (by rw [hvi]; decide) (by rw [hvi]; decide) (by rw [hvi]; rfl) (by decide) ?_
        exact lw_case_0 hx hb hml hown hts hN hK hX hbl hL hi4 hk9 k sg tu od sa gl F WX th kn bk sz fd ln fm fw to fo sb gb st sp wy se ms ts r1 r2 hcx hcz _ _ _ hP hD hS (lv_sub hl [0, 1, 2, 3] rfl)
      · refine lv_tableIn (off := 71) (tgt := 113) hx hb d_L_law_42 (by rw [hvi]; decide) (by rw [hvi]; decide) (by rw [hvi]; rfl) (by decide) ?_
        exact lw_case_1 hx hb hml hown hts hN hK hX hbl hL hi4 hk9 k sg tu od sa gl F WX th kn bk sz fd ln fm fw to fo sb gb st sp wy se ms ts r1 r2 hcx hcz _ _ _ hP hD hS (lv_sub hl [0, 1, 2, 3] rfl)
      · refine lv_tableIn (off := 114) (tgt := 156) hx hb d_L_law_42 (by rw [hvi]; decide) (by rw [hvi]; decide) (by rw [hvi]; rfl) (by decide) ?_
        exact lw_case_2 hx hb hml hown hts hN hK hX hbl hL hi4 hk9 k sg tu od sa gl F WX th kn bk sz fd ln fm fw to fo sb gb st sp wy se ms ts r1 r2 hcx hcz _ _ _ hP hD hS (lv_sub hl [0, 1, 2, 3] rfl)
      · refine lv_tableIn (off := 137) (tgt := 179) hx hb d_L_law_42 (by rw [hvi]; decide) (by rw [hvi]; decide) (by rw [hvi]; rfl) (by decide) ?_
        exact lw_case_3 hx hb hml hown hts hN hK hX hbl hL hi4 hk9 k sg tu od sa gl F WX th kn bk sz fd ln fm fw to fo sb gb st sp wy se ms ts r1 r2 hcx hcz _ _ _ hP hD hS (lv_sub hl [0, 1, 2, 3] rfl)
      · refine lv_tableIn (off := 196) (tgt := 238) hx hb d_L_law_42 (by rw [hvi]; decide) (by rw [hvi]; decide) (by rw [hvi]; rfl) (by decide) ?_
        exact lw_case_4 hx hb hml hown hts hN hK hX hbl hL hi4 hk9 k sg tu od sa gl F WX th kn bk sz fd ln fm fw to fo sb gb st sp wy se ms ts r1 r2 hcx hcz _ _ _ hP hD hS (lv_sub hl [0, 1, 2, 3] rfl)
      · refine lv_tableIn (off := 229) (tgt := 271) hx hb d_L_law_42 (by rw [hvi]; decide) (by rw [hvi]; decide) (by rw [hvi]; rfl) (by decide) ?_
        exact lw_case_5 hx hb hml hown hts hN hK hX hbl hL hi4 hk9 k sg tu od sa gl F WX th kn bk sz fd ln fm fw to fo sb gb st sp wy se ms ts r1 r2 hcx hcz _ _ _ hP hD hS (lv_sub hl [0, 1, 2, 3] rfl)
      · refine lv_tableIn (off := 278) (tgt := 320) hx hb d_L_law_42 (by rw [hvi]; decide) (by rw [hvi]; decide) (by rw [hvi]; rfl) (by decide) ?_
        exact lw_case_6 hx hb hml hown hts hN hK hX hbl hL hi4 hk9 k sg tu od sa gl F WX th kn bk sz fd ln fm fw to fo sb gb st sp wy se ms ts r1 r2 hcx hcz _ _ _ hP hD hS (lv_sub hl [0, 1, 2, 3] rfl)
      · refine lv_tableIn (off := 292) (tgt := 334) hx hb d_L_law_42 (by rw [hvi]; decide) (by rw [hvi]; decide) (by rw [hvi]; rfl) (by decide) ?_
        exact lw_case_7 hx hb hml hown hts hN hK hX hbl hL hi4 hk9 k sg tu od sa gl F WX th kn bk sz fd ln fm fw to fo sb gb st sp wy se ms ts r1 r2 hcx hcz _ _ _ hP hD hS (lv_sub hl [0, 1, 2, 3] rfl)
      · refine lv_tableIn (off := 325) (tgt := 367) hx hb d_L_law_42 (by rw [hvi]; decide) (by rw [hvi]; decide) (by rw [hvi]; rfl) (by decide) ?_
        exact lw_case_8 hx hb hml hown hts hN hK hX hbl hL hi4 hk9 k sg tu od sa gl F WX th kn bk sz fd ln fm fw to fo sb gb st sp wy se ms ts r1 r2 hcx hcz _ _ _ hP hD hS (lv_sub hl [0, 1, 2, 3] rfl)
      · refine lv_tableIn (off := 348) (tgt := 390) hx hb d_L_law_42 (by rw [hvi]; decide) (by rw [hvi]; decide) (by rw [hvi]; rfl) (by decide) ?_
        exact lw_case_9 hx hb hml hown hts hN hK hX hbl hL hi4 hk9 k sg tu od sa gl F WX th kn bk sz fd ln fm fw to fo sb gb st sp wy se ms ts r1 r2 hcx hcz _ _ _ hP hD hS (lv_sub hl [0, 1, 2, 3] rfl)
      · refine lv_tableIn (off := 401) (tgt := 443) hx hb d_L_law_42 (by rw [hvi]; decide) (by rw [hvi]; decide) (by rw [hvi]; rfl) (by decide) ?_
        exact lw_case_10 hx hb hml hown hts hN hK hX hbl hL hi4 hk9 k sg tu od sa gl F WX th kn bk sz fd ln fm fw to fo sb gb st sp wy se ms ts r1 r2 hcx hcz _ _ _ hP hD hS (lv_sub hl [0, 1, 2, 3] rfl)
      · refine lv_tableOut (tgt := 454) hx hb d_L_law_42 (by rw [hvi]; omega) (by decide) ?_
        exact hk9 k sg tu od sa gl F WX th kn bk sz fd ln fm fw to fo sb gb st sp wy se ms ts r1 r2 hcx hcz _ _ _ hP hD hS (lv_sub hl [0, 1, 2, 3] rfl)
