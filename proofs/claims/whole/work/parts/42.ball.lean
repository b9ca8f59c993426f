theorem d_B_growTo_0 : decode b_B_growTo 0 = .ok (.iconst 0, 1) := by decide +kernel
theorem d_B_growTo_1 : decode b_B_growTo 1 = .ok (.istore_n 2, 1) := by decide +kernel
theorem d_B_growTo_2 : decode b_B_growTo 2 = .ok (.iload_n 2, 1) := by decide +kernel
theorem d_B_growTo_3 : decode b_B_growTo 3 = .ok (.aload_n 0, 1) := by decide +kernel
theorem d_B_growTo_4 : decode b_B_growTo 4 = .ok (.getfield 26, 3) := by decide +kernel
theorem d_B_growTo_7 : decode b_B_growTo 7 = .ok (.arraylength, 1) := by decide +kernel
theorem d_B_growTo_8 : decode b_B_growTo 8 = .ok (.if_icmp .ge 29, 3) := by decide +kernel
theorem d_B_growTo_11 : decode b_B_growTo 11 = .ok (.aload_n 0, 1) := by decide +kernel
theorem d_B_growTo_12 : decode b_B_growTo 12 = .ok (.getfield 52, 3) := by decide +kernel
theorem d_B_growTo_15 : decode b_B_growTo 15 = .ok (.iload_n 1, 1) := by decide +kernel
theorem d_B_growTo_16 : decode b_B_growTo 16 = .ok (.if_icmp .ge 21, 3) := by decide +kernel
theorem d_B_growTo_19 : decode b_B_growTo 19 = .ok (.aload_n 0, 1) := by decide +kernel
theorem d_B_growTo_20 : decode b_B_growTo 20 = .ok (.getfield 55, 3) := by decide +kernel
theorem d_B_growTo_23 : decode b_B_growTo 23 = .ok (.ifCond .ne 14, 3) := by decide +kernel
theorem d_B_growTo_26 : decode b_B_growTo 26 = .ok (.aload_n 0, 1) := by decide +kernel
theorem d_B_growTo_27 : decode b_B_growTo 27 = .ok (.invokevirtual 71, 3) := by decide +kernel
theorem d_B_growTo_30 : decode b_B_growTo 30 = .ok (.pop, 1) := by decide +kernel
theorem d_B_growTo_31 : decode b_B_growTo 31 = .ok (.iinc 2 1, 3) := by decide +kernel
theorem d_B_growTo_34 : decode b_B_growTo 34 = .ok (.goto (-32), 3) := by decide +kernel
theorem d_B_growTo_37 : decode b_B_growTo 37 = .ok (.return_, 1) := by decide +kernel
theorem d_B_growWhole_0 : decode b_B_growWhole 0 = .ok (.aload_n 0, 1) := by decide +kernel
theorem d_B_growWhole_1 : decode b_B_growWhole 1 = .ok (.aload_n 0, 1) := by decide +kernel
theorem d_B_growWhole_2 : decode b_B_growWhole 2 = .ok (.getfield 26, 3) := by decide +kernel
theorem d_B_growWhole_5 : decode b_B_growWhole 5 = .ok (.arraylength, 1) := by decide +kernel
theorem d_B_growWhole_6 : decode b_B_growWhole 6 = .ok (.invokevirtual 75, 3) := by decide +kernel
theorem d_B_growWhole_9 : decode b_B_growWhole 9 = .ok (.return_, 1) := by decide +kernel
theorem d_B_sizeOfLayer_0 : decode b_B_sizeOfLayer 0 = .ok (.iload_n 1, 1) := by decide +kernel
theorem d_B_sizeOfLayer_1 : decode b_B_sizeOfLayer 1 = .ok (.aload_n 0, 1) := by decide +kernel
theorem d_B_sizeOfLayer_2 : decode b_B_sizeOfLayer 2 = .ok (.getfield 52, 3) := by decide +kernel
theorem d_B_sizeOfLayer_5 : decode b_B_sizeOfLayer 5 = .ok (.if_icmp .le 7, 3) := by decide +kernel
theorem d_B_sizeOfLayer_8 : decode b_B_sizeOfLayer 8 = .ok (.iconst 0, 1) := by decide +kernel
theorem d_B_sizeOfLayer_9 : decode b_B_sizeOfLayer 9 = .ok (.goto 16, 3) := by decide +kernel
theorem d_B_sizeOfLayer_12 : decode b_B_sizeOfLayer 12 = .ok (.aload_n 0, 1) := by decide +kernel
theorem d_B_sizeOfLayer_13 : decode b_B_sizeOfLayer 13 = .ok (.iload_n 1, 1) := by decide +kernel
theorem d_B_sizeOfLayer_14 : decode b_B_sizeOfLayer 14 = .ok (.invokevirtual 79, 3) := by decide +kernel
theorem d_B_sizeOfLayer_17 : decode b_B_sizeOfLayer 17 = .ok (.aload_n 0, 1) := by decide +kernel
theorem d_B_sizeOfLayer_18 : decode b_B_sizeOfLayer 18 = .ok (.iload_n 1, 1) := by decide +kernel
theorem d_B_sizeOfLayer_19 : decode b_B_sizeOfLayer 19 = .ok (.iconst 1, 1) := by decide +kernel
theorem d_B_sizeOfLayer_20 : decode b_B_sizeOfLayer 20 = .ok (.isub, 1) := by decide +kernel
theorem d_B_sizeOfLayer_21 : decode b_B_sizeOfLayer 21 = .ok (.invokevirtual 79, 3) := by decide +kernel
theorem d_B_sizeOfLayer_24 : decode b_B_sizeOfLayer 24 = .ok (.isub, 1) := by decide +kernel
theorem d_B_sizeOfLayer_25 : decode b_B_sizeOfLayer 25 = .ok (.ireturn, 1) := by decide +kernel
theorem kw_15 : (Cond.selects "TwoEndSearch$Ball" ⟨"TwoEndSearch$Ball", "countWithin", "(I)I"⟩ ⟨"TwoEndSearch$Ball", "countWithin", "(I)I"⟩ : Cond) ∈ bigW := bigW_of 15 (by decide +kernel) (by decide +kernel)
theorem kw_352 : (Cond.instanceMethod ⟨"TwoEndSearch$Ball", "grow", "()Z"⟩ : Cond) ∈ bigW := bigW_of 352 (by decide +kernel) (by decide +kernel)
theorem kw_353 : (Cond.selects "TwoEndSearch$Ball" ⟨"TwoEndSearch$Ball", "grow", "()Z"⟩ ⟨"TwoEndSearch$Ball", "grow", "()Z"⟩ : Cond) ∈ bigW := bigW_of 353 (by decide +kernel) (by decide +kernel)
theorem kw_354 : (Cond.code ⟨"TwoEndSearch$Ball", "grow", "()Z"⟩ prog_2_method_4_code 4 (some .boolean) : Cond) ∈ bigW := bigW_of 354 (by decide +kernel) (by decide +kernel)
theorem kw_410 : (Cond.instanceMethod ⟨"TwoEndSearch$Ball", "growTo", "(I)V"⟩ : Cond) ∈ bigW := bigW_of 410 (by decide +kernel) (by decide +kernel)
theorem kw_411 : (Cond.selects "TwoEndSearch$Ball" ⟨"TwoEndSearch$Ball", "growTo", "(I)V"⟩ ⟨"TwoEndSearch$Ball", "growTo", "(I)V"⟩ : Cond) ∈ bigW := bigW_of 411 (by decide +kernel) (by decide +kernel)
theorem kw_412 : (Cond.code ⟨"TwoEndSearch$Ball", "growTo", "(I)V"⟩ prog_2_method_5_code 3 none : Cond) ∈ bigW := bigW_of 412 (by decide +kernel) (by decide +kernel)
theorem kw_413 : (Cond.methodLink "TwoEndSearch$Ball" 71 ⟨"TwoEndSearch$Ball", "grow", "()Z"⟩ : Cond) ∈ bigW := bigW_of 413 (by decide +kernel) (by decide +kernel)
theorem kw_418 : (Cond.methodLink "TwoEndSearch$Ball" 79 ⟨"TwoEndSearch$Ball", "countWithin", "(I)I"⟩ : Cond) ∈ bigW := bigW_of 418 (by decide +kernel) (by decide +kernel)
theorem kw_420 : (Cond.instanceMethod ⟨"TwoEndSearch$Ball", "countWithin", "(I)I"⟩ : Cond) ∈ bigW := bigW_of 420 (by decide +kernel) (by decide +kernel)
theorem kw_421 : (Cond.code ⟨"TwoEndSearch$Ball", "countWithin", "(I)I"⟩ prog_2_method_11_code 5 (some .int) : Cond) ∈ bigW := bigW_of 421 (by decide +kernel) (by decide +kernel)
theorem kw_431 : (Cond.methodLink "TwoEndSearch$Ball" 75 ⟨"TwoEndSearch$Ball", "growTo", "(I)V"⟩ : Cond) ∈ bigW := bigW_of 431 (by decide +kernel) (by decide +kernel)
def po_B_growTo (q : wz_Q) (ab ag am : Nat → Nat) (n b k fw : Nat) (rl rt : Nat → Nat) (fo : Nat → Int32) (M : Nat → Nat → Int32) (sg tu : Nat → Nat → Nat) (od : Nat → Nat) (a0 : Nat) (G : List Nat) (st sl : Nat → Int32) (L : Nat → Nat → Int32) (S : pz_S) (fa : Nat → Int32) (wy : Nat → Int64) (re : Nat → Int32) (ly dp : Nat) (me cm : Int32) (r0 : Nat) (cb : Bool) (D9 : Nat) : wz_G → Prop := fun w => ∃ (G' : List Nat) (st' sl' : Nat → Int32) (L' : Nat → Nat → Int32) (S' : pz_S) (fa' : Nat → Int32) (wy' : Nat → Int64) (re' : Nat → Int32) (ly' dp' : Nat) (cb' : Bool), w = [bl_W q ab (am 0) (ag 0) fw (pz_fact n) fa' wy' re' S'.1.length ly' dp' me (bl_b cb'), gq_W q ag (am 0) (pz_fact n) (2 ^ b) (32 - b) rl st' sl' G'.length, wz_rows 12 rl (fun i9 => .inl (q.1, pz_fact n, .inl (L' i9))), mv_W q am n k rt fo, wz_rows 12 rt (fun i9 => .inl (q.1, 8, .inl (M i9)))] ∧ pz_ball (bl_s n k fw sg tu od me) r0 ly' dp' cb' S' ∧ dp' ≤ ly' ∧ (cb' = true ∨ D9 ≤ dp') ∧ (∃ Nw, G' = G ++ Nw) ∧ gq_ok n a0 b k sg tu G' st' sl' L' ∧ bl_ok (pz_fact n) G' S' fa' wy' re'
set_option maxHeartbeats 4000000 in
set_option maxRecDepth 100000 in
/-- layers up to a distance -/
theorem c_B_growTo (l : Launch) (D : va_G) (q : wz_Q) (ab ag am : Nat → Nat) (n b k fw : Nat) (rl rt : Nat → Nat) (fo : Nat → Int32) (M : Nat → Nat → Int32) (sg tu : Nat → Nat → Nat) (od : Nat → Nat) (a0 : Nat) (G : List Nat) (st sl : Nat → Int32) (L : Nat → Nat → Int32) (S : pz_S) (fa : Nat → Int32) (wy : Nat → Int64) (re : Nat → Int32) (ly dp : Nat) (me cm : Int32) (r0 : Nat) (cb : Bool) (D9 : Nat) (hn : n ≤ 8) (hb0 : 0 < b) (hb30 : b ≤ 30) (hM : pz_fact n < 2 ^ b) (hk : k ≤ 6) (hfw : fw = 0 ∨ fw = 6) (hmv : mv_ok n k fo M sg tu od) (hok : gq_ok n a0 b k sg tu G st sl L) (hbl : bl_ok (pz_fact n) G S fa wy re) (hball : pz_ball (bl_s n k fw sg tu od me) r0 ly dp cb S) (hcm : cm = bl_b cb) (hdl : dp ≤ ly) (hD9 : D9 < 2 ^ 31) : wz_Mv l y_B_growTo ws_B_growTo ({ frames := 5, cells := 0, slots := 0, locals := 120 } : Room) D q ([.ref (ab 0), .int (nI D9)] : List Value) [bl_W q ab (am 0) (ag 0) fw (pz_fact n) fa wy re S.1.length ly dp me cm, gq_W q ag (am 0) (pz_fact n) (2 ^ b) (32 - b) rl st sl G.length, wz_rows 12 rl (fun i9 => .inl (q.1, pz_fact n, .inl (L i9))), mv_W q am n k rt fo, wz_rows 12 rt (fun i9 => .inl (q.1, 8, .inl (M i9)))] (po_B_growTo q ab ag am n b k fw rl rt fo M sg tu od a0 G st sl L S fa wy re ly dp me cm r0 cb D9) 0 0 := by
  intro sz9
  refine wz_enter (cc := b_B_growTo) (maxL := 3) (ret := none) (Qc := fun A => (va_Qv (po_B_growTo q ab ag am n b k fw rl rt fo M sg tu od a0 G st sl L S fa wy re ly dp me cm r0 cb D9) (wz_At D q A) A)) (by decide) (Nat.le_of_ble_eq_true rfl) ?_
  intro p e s m below meth c A ls C hP hD hS hl
  obtain ⟨hx, hb, hr, hml, hlocks, hown, hts, hN, hK, hA, hnm⟩ := C
  have hown : s.vm.findClass "TwoEndSearch$Ball" = some m.cls := hown
  have hl : lv_has ls 3 [(0, .ref (ab 0)), (1, .int (nI D9))] := hl
  have hfl := pz_fact_le hn
  subst hcm
  refine lv_iconst (v := nI 0) hx hb d_B_growTo_0 (by decide) ?_
  refine lv_istore_n (lv' := [(2, .int (nI 0)), (0, .ref (ab 0)), (1, .int (nI D9))]) hx hb d_B_growTo_1 rfl hl (by decide) rfl (fun ls hl => ?_)
  have loop : ∀ (d : Nat) (t : Nat) (G1 : List Nat) (st1 sl1 : Nat → Int32) (L1 : Nat → Nat → Int32) (S1 : pz_S) (fa1 : Nat → Int32) (wy1 : Nat → Int64) (re1 : Nat → Int32) (ly1 dp1 : Nat) (cb1 : Bool), t ≤ pz_fact n → pz_fact n + 1 ≤ t + d → (∃ Nw, G1 = G ++ Nw) → gq_ok n a0 b k sg tu G1 st1 sl1 L1 → bl_ok (pz_fact n) G1 S1 fa1 wy1 re1 → pz_ball (bl_s n k fw sg tu od me) r0 ly1 dp1 cb1 S1 → dp1 ≤ ly1 → (cb1 = false → t ≤ dp1) → ∀ (H : Heap) (locs : List Loc) (ls : Array Slot), va_P D vwCl ([bl_W q ab (am 0) (ag 0) fw (pz_fact n) fa1 wy1 re1 S1.1.length ly1 dp1 me (bl_b cb1), gq_W q ag (am 0) (pz_fact n) (2 ^ b) (32 - b) rl st1 sl1 G1.length, wz_rows 12 rl (fun i9 => .inl (q.1, pz_fact n, .inl (L1 i9))), mv_W q am n k rt fo, wz_rows 12 rt (fun i9 => .inl (q.1, 8, .inl (M i9)))] : wz_G).flatten H → va_D A ([bl_W q ab (am 0) (ag 0) fw (pz_fact n) fa1 wy1 re1 S1.1.length ly1 dp1 me (bl_b cb1), gq_W q ag (am 0) (pz_fact n) (2 ^ b) (32 - b) rl st1 sl1 G1.length, wz_rows 12 rl (fun i9 => .inl (q.1, pz_fact n, .inl (L1 i9))), mv_W q am n k rt fo, wz_rows 12 rt (fun i9 => .inl (q.1, 8, .inl (M i9)))] : wz_G).flatten → va_S A s.heap H locs → lv_has ls 3 [(0, .ref (ab 0)), (1, .int (nI D9)), (2, .int (nI t))] → W p l e ({ frames := 5, cells := 0, slots := 0, locals := 120 } : Room) s m ([.ref (ab 0), .int (nI D9)] : List Value).toArray below meth c H locs 0 0 (MQ below (va_Qv (po_B_growTo q ab ag am n b k fw rl rt fo M sg tu od a0 G st sl L S fa wy re ly dp me (bl_b cb) r0 cb D9) (wz_At D q A) A) ([.ref (ab 0), .int (nI D9)] : List Value).toArray s 0 0 A) (F0 m 2 ls []) := by
    intro d
    induction d with
    | zero =>
      intro t G1 st1 sl1 L1 S1 fa1 wy1 re1 ly1 dp1 cb1 ht hd hp1 hok1 hbl1 hball1 hdl1 h9
      omega
    | succ d ih =>
      intro t G1 st1 sl1 L1 S1 fa1 wy1 re1 ly1 dp1 cb1 ht hd hp1 hok1 hbl1 hball1 hdl1 h9 H locs ls hP hD hS hl
      have hS1l := bl_len hbl1
      have hG1l := gq_len hok1
      have hly1 := hball1.2.1
      refine lv_iload_n hx hb d_B_growTo_2 rfl (lv_at hl 2 rfl) ?_
      refine lv_aload_n hx hb d_B_growTo_3 rfl (lv_at hl 0 rfl) ?_
      refine wz_get (v := .ref (ab 1)) (T := T_B) (N := 11) hx hb hts i_B hown hK hP 0 0 rfl rfl rfl 3 (by decide) (hts _ kw_128) rfl rfl d_B_growTo_4 ?_
      refine wz_alen hx hb hK hP 0 1 (n := pz_fact n) rfl rfl d_B_growTo_7 ?_
      refine wz_ge (tgt := 37) hx hb d_B_growTo_8 (by decide) (by omega) (by omega) (fun hc => ?_) (fun hc => ?_)
      · skip
        exact wz_vret hx hb hr hlocks hK hP hD hS d_B_growTo_37 ⟨G1, st1, sl1, L1, S1, fa1, wy1, re1, ly1, dp1, cb1, rfl, hball1, hdl1, (by cases cb1 with | true => exact Or.inl rfl | false => exact absurd (h9 rfl) (by omega)), hp1, hok1, hbl1⟩
      · skip
        refine lv_aload_n hx hb d_B_growTo_11 rfl (lv_at hl 0 rfl) ?_
        refine wz_get (v := .int (nI dp1)) (T := T_B) (N := 11) hx hb hts i_B hown hK hP 0 0 rfl rfl rfl 8 (by decide) (hts _ kw_138) rfl rfl d_B_growTo_12 ?_
        refine lv_iload_n hx hb d_B_growTo_15 rfl (lv_at hl 1 rfl) ?_
        refine wz_ge (tgt := 37) hx hb d_B_growTo_16 (by decide) (by omega) (by omega) (fun hc2 => ?_) (fun hc2 => ?_)
        · skip
          exact wz_vret hx hb hr hlocks hK hP hD hS d_B_growTo_37 ⟨G1, st1, sl1, L1, S1, fa1, wy1, re1, ly1, dp1, cb1, rfl, hball1, hdl1, (Or.inr hc2), hp1, hok1, hbl1⟩
        · skip
          refine lv_aload_n hx hb d_B_growTo_19 rfl (lv_at hl 0 rfl) ?_
          refine wz_get (v := .int (bl_b cb1)) (T := T_B) (N := 11) hx hb hts i_B hown hK hP 0 0 rfl rfl rfl 10 (by decide) (hts _ kw_143) rfl rfl d_B_growTo_20 ?_
          refine lv_if_ne (tgt := 37) hx hb d_B_growTo_23 (by decide) (fun hc3 => ?_) (fun hc3 => ?_)
          · skip
            exact wz_vret hx hb hr hlocks hK hP hD hS d_B_growTo_37 ⟨G1, st1, sl1, L1, S1, fa1, wy1, re1, ly1, dp1, cb1, rfl, hball1, hdl1, (by cases cb1 with | true => exact Or.inl rfl | false => exact absurd rfl hc3), hp1, hok1, hbl1⟩
          · skip
            have hcb1 : cb1 = false := by cases cb1 with | true => exact absurd hc3 (by decide) | false => rfl
            subst hcb1
            refine lv_aload_n hx hb d_B_growTo_26 rfl (lv_at hl 0 rfl) ?_
            have hQ := wz_split (n := 5) (gc := [bl_W q ab (am 0) (ag 0) fw (pz_fact n) fa1 wy1 re1 S1.1.length ly1 dp1 me (bl_b false), gq_W q ag (am 0) (pz_fact n) (2 ^ b) (32 - b) rl st1 sl1 G1.length, wz_rows 12 rl (fun i9 => .inl (q.1, pz_fact n, .inl (L1 i9))), mv_W q am n k rt fo, wz_rows 12 rt (fun i9 => .inl (q.1, 8, .inl (M i9)))]) (gr := []) [0, 1, 2, 3, 4] [] rfl (by decide) rfl rfl hP hD
            refine wz_calli (va_runV (As := []) (rest := []) ⟨hx, hb, hml, hown, hts⟩ (c_B_grow l D q ab ag am n b k fw rl rt fo M sg tu od a0 G1 st1 sl1 L1 S1 fa1 wy1 re1 ly1 dp1 me (bl_b false) r0 false hn hb0 hb30 hM hk hfw hmv hok1 hbl1 hball1 rfl hdl1 _) (cwV 0 hts (wz_goodV kw_413 kw_352 kw_353 kw_35 kw_354) rfl rfl rfl (by decide +kernel) ⟨Nat.le_of_ble_eq_true rfl, Nat.le_of_ble_eq_true rfl⟩) (wz_preV (gi := 0) (k := 0) hN hK hQ wz_L_ok rfl rfl rfl) rfl rfl hl.1 rfl (lv_room (Nat.le_of_ble_eq_true rfl)) d_B_growTo_27 ⟨Nat.le_of_ble_eq_true rfl, Nat.le_of_ble_eq_true rfl⟩) hQ hS hA (fun v_27 gx H locs hp hP hD hS => ?_)
            obtain ⟨G2, st2, sl2, L2, S2, fa2, wy2, re2, ly2, dp2, cb2, rfl, hball2, hdl2, hres, ⟨Nb, hNb⟩, hok2, hbl2⟩ := hp
            obtain ⟨Na, hNa⟩ := hp1
            obtain ⟨hP, hD⟩ := wz_ord (n := 5) (gs' := [bl_W q ab (am 0) (ag 0) fw (pz_fact n) fa2 wy2 re2 S2.1.length ly2 dp2 me (bl_b cb2), gq_W q ag (am 0) (pz_fact n) (2 ^ b) (32 - b) rl st2 sl2 G2.length, wz_rows 12 rl (fun i9 => .inl (q.1, pz_fact n, .inl (L2 i9))), mv_W q am n k rt fo, wz_rows 12 rt (fun i9 => .inl (q.1, 8, .inl (M i9)))]) [0, 1, 2, 3, 4] rfl (by decide) rfl hP hD
            refine lv_pop hx hb d_B_growTo_30 rfl ?_
            refine lv_iinc (v := nI (t + 1)) (lv' := [(2, .int (nI (t + 1))), (0, .ref (ab 0)), (1, .int (nI D9))]) hx hb d_B_growTo_31 hl (k := 2) rfl (nI_1 t) (by decide) rfl (fun ls hl => ?_)
            refine lv_goto (tgt := 2) hx hb d_B_growTo_34 (by decide) ?_
            exact ih (t + 1) G2 st2 sl2 L2 S2 fa2 wy2 re2 ly2 dp2 cb2 (by omega) (by omega) ⟨Na ++ Nb, by rw [hNb, hNa, List.append_assoc]⟩ hok2 hbl2 hball2 hdl2 (fun e0 => by
              rcases hres with q | q
              · rw [q.1] at e0; cases e0
              · have := h9 rfl; omega) _ _ _ hP hD hS (lv_sub hl [1, 2, 0] rfl)
  exact loop (pz_fact n + 1) 0 G st sl L S fa wy re ly dp cb (by omega) (by omega) ⟨[], by simp⟩ hok hbl hball hdl (fun _ => by omega) _ _ _ hP hD hS (lv_sub hl [1, 2, 0] rfl)
def po_B_growWhole (q : wz_Q) (ab ag am : Nat → Nat) (n b k fw : Nat) (rl rt : Nat → Nat) (fo : Nat → Int32) (M : Nat → Nat → Int32) (sg tu : Nat → Nat → Nat) (od : Nat → Nat) (a0 : Nat) (G : List Nat) (st sl : Nat → Int32) (L : Nat → Nat → Int32) (S : pz_S) (fa : Nat → Int32) (wy : Nat → Int64) (re : Nat → Int32) (ly dp : Nat) (me cm : Int32) (r0 : Nat) (cb : Bool) : wz_G → Prop := fun w => ∃ (G' : List Nat) (st' sl' : Nat → Int32) (L' : Nat → Nat → Int32) (S' : pz_S) (fa' : Nat → Int32) (wy' : Nat → Int64) (re' : Nat → Int32) (ly' dp' : Nat), w = [bl_W q ab (am 0) (ag 0) fw (pz_fact n) fa' wy' re' S'.1.length ly' dp' me (bl_b true), gq_W q ag (am 0) (pz_fact n) (2 ^ b) (32 - b) rl st' sl' G'.length, wz_rows 12 rl (fun i9 => .inl (q.1, pz_fact n, .inl (L' i9))), mv_W q am n k rt fo, wz_rows 12 rt (fun i9 => .inl (q.1, 8, .inl (M i9)))] ∧ pz_ball (bl_s n k fw sg tu od me) r0 ly' dp' true S' ∧ dp' ≤ ly' ∧ (∃ Nw, G' = G ++ Nw) ∧ gq_ok n a0 b k sg tu G' st' sl' L' ∧ bl_ok (pz_fact n) G' S' fa' wy' re'
set_option maxHeartbeats 4000000 in
set_option maxRecDepth 100000 in
/-- all layers -/
theorem c_B_growWhole (l : Launch) (D : va_G) (q : wz_Q) (ab ag am : Nat → Nat) (n b k fw : Nat) (rl rt : Nat → Nat) (fo : Nat → Int32) (M : Nat → Nat → Int32) (sg tu : Nat → Nat → Nat) (od : Nat → Nat) (a0 : Nat) (G : List Nat) (st sl : Nat → Int32) (L : Nat → Nat → Int32) (S : pz_S) (fa : Nat → Int32) (wy : Nat → Int64) (re : Nat → Int32) (ly dp : Nat) (me cm : Int32) (r0 : Nat) (cb : Bool) (hn : n ≤ 8) (hb0 : 0 < b) (hb30 : b ≤ 30) (hM : pz_fact n < 2 ^ b) (hk : k ≤ 6) (hfw : fw = 0 ∨ fw = 6) (hmv : mv_ok n k fo M sg tu od) (hok : gq_ok n a0 b k sg tu G st sl L) (hbl : bl_ok (pz_fact n) G S fa wy re) (hball : pz_ball (bl_s n k fw sg tu od me) r0 ly dp cb S) (hcm : cm = bl_b cb) (hdl : dp ≤ ly) : wz_Mv l y_B_growWhole ws_B_growWhole ({ frames := 6, cells := 0, slots := 0, locals := 142 } : Room) D q ([.ref (ab 0)] : List Value) [bl_W q ab (am 0) (ag 0) fw (pz_fact n) fa wy re S.1.length ly dp me cm, gq_W q ag (am 0) (pz_fact n) (2 ^ b) (32 - b) rl st sl G.length, wz_rows 12 rl (fun i9 => .inl (q.1, pz_fact n, .inl (L i9))), mv_W q am n k rt fo, wz_rows 12 rt (fun i9 => .inl (q.1, 8, .inl (M i9)))] (po_B_growWhole q ab ag am n b k fw rl rt fo M sg tu od a0 G st sl L S fa wy re ly dp me cm r0 cb) 0 0 := by
  intro sz9
  refine wz_enter (cc := b_B_growWhole) (maxL := 1) (ret := none) (Qc := fun A => (va_Qv (po_B_growWhole q ab ag am n b k fw rl rt fo M sg tu od a0 G st sl L S fa wy re ly dp me cm r0 cb) (wz_At D q A) A)) (by decide) (Nat.le_of_ble_eq_true rfl) ?_
  intro p e s m below meth c A ls C hP hD hS hl
  obtain ⟨hx, hb, hr, hml, hlocks, hown, hts, hN, hK, hA, hnm⟩ := C
  have hown : s.vm.findClass "TwoEndSearch$Ball" = some m.cls := hown
  have hl : lv_has ls 1 [(0, .ref (ab 0))] := hl
  have hfl := pz_fact_le hn
  refine lv_aload_n hx hb d_B_growWhole_0 rfl (lv_at hl 0 rfl) ?_
  refine lv_aload_n hx hb d_B_growWhole_1 rfl (lv_at hl 0 rfl) ?_
  refine wz_get (v := .ref (ab 1)) (T := T_B) (N := 11) hx hb hts i_B hown hK hP 0 0 rfl rfl rfl 3 (by decide) (hts _ kw_128) rfl rfl d_B_growWhole_2 ?_
  refine wz_alen hx hb hK hP 0 1 (n := pz_fact n) rfl rfl d_B_growWhole_5 ?_
  have hQ := wz_split (n := 5) (gc := [bl_W q ab (am 0) (ag 0) fw (pz_fact n) fa wy re S.1.length ly dp me cm, gq_W q ag (am 0) (pz_fact n) (2 ^ b) (32 - b) rl st sl G.length, wz_rows 12 rl (fun i9 => .inl (q.1, pz_fact n, .inl (L i9))), mv_W q am n k rt fo, wz_rows 12 rt (fun i9 => .inl (q.1, 8, .inl (M i9)))]) (gr := []) [0, 1, 2, 3, 4] [] rfl (by decide) rfl rfl hP hD
  refine wz_callv (va_runV (As := [.int (nI (pz_fact n))]) (rest := []) ⟨hx, hb, hml, hown, hts⟩ (c_B_growTo l D q ab ag am n b k fw rl rt fo M sg tu od a0 G st sl L S fa wy re ly dp me cm r0 cb (pz_fact n) hn hb0 hb30 hM hk hfw hmv hok hbl hball hcm hdl (by omega) _) (cwV 1 hts (wz_goodV kw_431 kw_410 kw_411 kw_35 kw_412) rfl rfl rfl (by decide +kernel) ⟨Nat.le_of_ble_eq_true rfl, Nat.le_of_ble_eq_true rfl⟩) (wz_preV (gi := 0) (k := 0) hN hK hQ wz_L_ok rfl rfl rfl) rfl rfl hl.1 rfl (lv_room (Nat.le_of_ble_eq_true rfl)) d_B_growWhole_6 ⟨Nat.le_of_ble_eq_true rfl, Nat.le_of_ble_eq_true rfl⟩) hQ hS hA (fun gx H locs hp hP hD hS => ?_)
  obtain ⟨G2, st2, sl2, L2, S2, fa2, wy2, re2, ly2, dp2, cb2, rfl, hball2, hdl2, hres, hp2, hok2, hbl2⟩ := hp
  have hS2l := bl_len hbl2
  have hG2l := gq_len hok2
  have hly2 := hball2.2.1
  obtain rfl : cb2 = true := hres.resolve_right (by omega)
  obtain ⟨hP, hD⟩ := wz_ord (n := 5) (gs' := [bl_W q ab (am 0) (ag 0) fw (pz_fact n) fa2 wy2 re2 S2.1.length ly2 dp2 me (bl_b true), gq_W q ag (am 0) (pz_fact n) (2 ^ b) (32 - b) rl st2 sl2 G2.length, wz_rows 12 rl (fun i9 => .inl (q.1, pz_fact n, .inl (L2 i9))), mv_W q am n k rt fo, wz_rows 12 rt (fun i9 => .inl (q.1, 8, .inl (M i9)))]) [0, 1, 2, 3, 4] rfl (by decide) rfl hP hD
  exact wz_vret hx hb hr hlocks hK hP hD hS d_B_growWhole_9 ⟨G2, st2, sl2, L2, S2, fa2, wy2, re2, ly2, dp2, rfl, hball2, hdl2, hp2, hok2, hbl2⟩
def po_B_sizeOfLayer (q : wz_Q) (ab : Nat → Nat) (mr gr fw cap : Nat) (fa : Nat → Int32) (wy : Nat → Int64) (re : Nat → Int32) (ly dp : Nat) (me cm : Int32) (G : List Nat) (S : pz_S) (D9 : Nat) : Int32 → wz_G → Prop := fun v w => w = [bl_W q ab mr gr fw cap fa wy re S.1.length ly dp me cm] ∧ ∃ c9, v = nI c9 ∧ ((dp < D9 ∧ c9 = 0) ∨ (D9 ≤ dp ∧ ∃ m0 m1, bl_cw S D9 m0 ∧ bl_cw S (D9 + 1) m1 ∧ m0 ≤ m1 ∧ c9 = m1 - m0))
set_option maxHeartbeats 4000000 in
set_option maxRecDepth 100000 in
/-- how many lie just so far -/
theorem c_B_sizeOfLayer (l : Launch) (D : va_G) (q : wz_Q) (ab : Nat → Nat) (mr gr fw cap : Nat) (fa : Nat → Int32) (wy : Nat → Int64) (re : Nat → Int32) (ly dp : Nat) (me cm : Int32) (G : List Nat) (S : pz_S) (D9 : Nat) (hcap : cap ≤ 40320) (hGc : G.length ≤ cap) (hS1 : bl_ok cap G S fa wy re) (hSl : ∀ x e, S.2.1 x = some e → e < 2 ^ 30) (hD9 : D9 < 2 ^ 31) (hdp : dp < 2 ^ 30) (hcw : ∀ d, ∃ m, bl_cw S d m) : wz_Mi l y_B_sizeOfLayer ws_B_sizeOfLayer ({ frames := 1, cells := 0, slots := 0, locals := 24 } : Room) D q ([.ref (ab 0), .int (nI D9)] : List Value) [bl_W q ab mr gr fw cap fa wy re S.1.length ly dp me cm] (po_B_sizeOfLayer q ab mr gr fw cap fa wy re ly dp me cm G S D9) 0 0 := by
  intro sz9
  refine wz_enter (cc := b_B_sizeOfLayer) (maxL := 2) (ret := (some .int)) (Qc := fun A => (va_Qi (po_B_sizeOfLayer q ab mr gr fw cap fa wy re ly dp me cm G S D9) (wz_At D q A) A)) (by decide) (Nat.le_of_ble_eq_true rfl) ?_
  intro p e s m below meth c A ls C hP hD hS hl
  obtain ⟨hx, hb, hr, hml, hlocks, hown, hts, hN, hK, hA, hnm⟩ := C
  have hown : s.vm.findClass "TwoEndSearch$Ball" = some m.cls := hown
  have hl : lv_has ls 2 [(0, .ref (ab 0)), (1, .int (nI D9))] := hl
  refine lv_iload_n hx hb d_B_sizeOfLayer_0 rfl (lv_at hl 1 rfl) ?_
  refine lv_aload_n hx hb d_B_sizeOfLayer_1 rfl (lv_at hl 0 rfl) ?_
  refine wz_get (v := .int (nI dp)) (T := T_B) (N := 11) hx hb hts i_B hown hK hP 0 0 rfl rfl rfl 8 (by decide) (hts _ kw_138) rfl rfl d_B_sizeOfLayer_2 ?_
  refine wz_le (tgt := 12) hx hb d_B_sizeOfLayer_5 (by decide) (by omega) (by omega) (fun hc => ?_) (fun hc => ?_)
  · skip
    obtain ⟨m0, hm0⟩ := hcw D9
    obtain ⟨m1, hm1⟩ := hcw (D9 + 1)
    have hmm := bl_cw_mono hS1.1 hm0 hm1
    have hm1l := hm1.1
    have hSn := bl_len hS1
    refine lv_aload_n hx hb d_B_sizeOfLayer_12 rfl (lv_at hl 0 rfl) ?_
    refine lv_iload_n hx hb d_B_sizeOfLayer_13 rfl (lv_at hl 1 rfl) ?_
    refine wz_topi (y := (nI (D9 + 1) - nI 1)) (show nI D9 = _ from (pk_sub (a := D9 + 1) (b := 1) (by omega)).symm) ?_
    have hQ := wz_split (n := 1) (gc := [bl_W q ab mr gr fw cap fa wy re S.1.length ly dp me cm]) (gr := []) [0] [] rfl (by decide) rfl rfl hP hD
    refine wz_calli (va_runV (As := [.int (nI (D9 + 1) - nI 1)]) (rest := []) ⟨hx, hb, hml, hown, hts⟩ (c_B_countWithin l D q ab mr gr fw cap fa wy re ly dp me cm G S (D9 + 1) m1 hcap hGc hS1 hSl (by omega) hm1 _) (cwV 1 hts (wz_goodV kw_418 kw_420 kw_15 kw_35 kw_421) rfl rfl rfl (by decide +kernel) ⟨Nat.le_of_ble_eq_true rfl, Nat.le_of_ble_eq_true rfl⟩) (wz_preV (gi := 0) (k := 0) hN hK hQ wz_L_ok rfl rfl rfl) rfl rfl hl.1 rfl (lv_room (Nat.le_of_ble_eq_true rfl)) d_B_sizeOfLayer_14 ⟨Nat.le_of_ble_eq_true rfl, Nat.le_of_ble_eq_true rfl⟩) hQ hS hA (fun v_14 gx H locs hp hP hD hS => ?_)
    obtain ⟨rfl, rfl⟩ := hp
    obtain ⟨hP, hD⟩ := wz_ord (n := 1) (gs' := [bl_W q ab mr gr fw cap fa wy re S.1.length ly dp me cm]) [0] rfl (by decide) rfl hP hD
    refine lv_aload_n hx hb d_B_sizeOfLayer_17 rfl (lv_at hl 0 rfl) ?_
    refine lv_iload_n hx hb d_B_sizeOfLayer_18 rfl (lv_at hl 1 rfl) ?_
    refine lv_iconst (v := nI 1) hx hb d_B_sizeOfLayer_19 (by decide) ?_
    refine lv_isub hx hb d_B_sizeOfLayer_20 ?_
    have hQ := wz_split (n := 1) (gc := [bl_W q ab mr gr fw cap fa wy re S.1.length ly dp me cm]) (gr := []) [0] [] rfl (by decide) rfl rfl hP hD
    refine wz_calli (va_runV (As := [.int ((nI D9) - (nI 1))]) (rest := [.int (nI m1)]) ⟨hx, hb, hml, hown, hts⟩ (c_B_countWithin l D q ab mr gr fw cap fa wy re ly dp me cm G S D9 m0 hcap hGc hS1 hSl (by omega) hm0 _) (cwV 1 hts (wz_goodV kw_418 kw_420 kw_15 kw_35 kw_421) rfl rfl rfl (by decide +kernel) ⟨Nat.le_of_ble_eq_true rfl, Nat.le_of_ble_eq_true rfl⟩) (wz_preV (gi := 0) (k := 0) hN hK hQ wz_L_ok rfl rfl rfl) rfl rfl hl.1 rfl (lv_room (Nat.le_of_ble_eq_true rfl)) d_B_sizeOfLayer_21 ⟨Nat.le_of_ble_eq_true rfl, Nat.le_of_ble_eq_true rfl⟩) hQ hS hA (fun v_21 gx H locs hp hP hD hS => ?_)
    obtain ⟨rfl, rfl⟩ := hp
    obtain ⟨hP, hD⟩ := wz_ord (n := 1) (gs' := [bl_W q ab mr gr fw cap fa wy re S.1.length ly dp me cm]) [0] rfl (by decide) rfl hP hD
    refine lv_isub hx hb d_B_sizeOfLayer_24 ?_
    refine wz_topi (y := nI (m1 - m0)) (pk_sub hmm) ?_
    exact wz_iret hx hb hr hlocks hK hP hD hS d_B_sizeOfLayer_25 ⟨rfl, m1 - m0, rfl, Or.inr ⟨hc, m0, m1, hm0, hm1, hmm, rfl⟩⟩
  · skip
    refine lv_iconst (v := nI 0) hx hb d_B_sizeOfLayer_8 (by decide) ?_
    refine lv_goto (tgt := 25) hx hb d_B_sizeOfLayer_9 (by decide) ?_
    exact wz_iret hx hb hr hlocks hK hP hD hS d_B_sizeOfLayer_25 ⟨rfl, 0, rfl, Or.inl ⟨hc, rfl⟩⟩
