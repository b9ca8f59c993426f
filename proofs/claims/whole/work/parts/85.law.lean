theorem lw_rep {x : Int64} {v v' : Int32} {P : Nat → Prop} (h : (x < 0 ∧ v = 0) ∨ ∃ r9, r9 < 2 ^ 63 ∧ x = lN r9 ∧ wz_bit v (P r9)) (h' : (x < 0 ∧ v' = 0) ∨ ∃ r9, r9 < 2 ^ 63 ∧ x = lN r9 ∧ wz_bit v' (P r9)) : v = v' := by
  have hn : ∀ r, r < 2 ^ 63 → x = lN r → ¬ x < 0 := fun r hr e q => by
    rw [e] at q
    have h1 := (pk_lLT hr (show 0 < 2 ^ 63 by decide)).mp q
    omega
  rcases h with ⟨a, b⟩ | ⟨r, hr, e, hb⟩
  · rcases h' with ⟨_, b'⟩ | ⟨r', hr', e', _⟩
    · rw [b, b']
    · exact absurd a (hn r' hr' e')
  · rcases h' with ⟨a', _⟩ | ⟨r', hr', e', hb'⟩
    · exact absurd a' (hn r hr e)
    · obtain rfl : r = r' := (pk_lEQ hr hr').mp (e.symm.trans e')
      rcases hb with ⟨h1, h2⟩ | ⟨h1, h2⟩
      · rcases hb' with ⟨h3, _⟩ | ⟨_, h4⟩
        · rw [h1, h3]
        · exact absurd h2 h4
      · rcases hb' with ⟨_, h4⟩ | ⟨h3, _⟩
        · exact absurd h4 h2
        · rw [h1, h3]

theorem kw_404 : (Cond.methodLink "TwoEndSearchLaw" 56 ⟨"TwoEndSearch", "spread", "(II)I"⟩ : Cond) ∈ bigW := bigW_of 404 (by decide +kernel) (by decide +kernel)
theorem kw_405 : (Cond.instanceMethod ⟨"TwoEndSearch", "spread", "(II)I"⟩ : Cond) ∈ bigW := bigW_of 405 (by decide +kernel) (by decide +kernel)
theorem kw_406 : (Cond.selects "TwoEndSearch" ⟨"TwoEndSearch", "spread", "(II)I"⟩ ⟨"TwoEndSearch", "spread", "(II)I"⟩ : Cond) ∈ bigW := bigW_of 406 (by decide +kernel) (by decide +kernel)
theorem kw_407 : (Cond.code ⟨"TwoEndSearch", "spread", "(II)I"⟩ prog_1_method_9_code 4 (some .int) : Cond) ∈ bigW := bigW_of 407 (by decide +kernel) (by decide +kernel)
theorem kw_423 : (Cond.methodLink "TwoEndSearchLaw" 60 ⟨"TwoEndSearch", "deepest", "(I)I"⟩ : Cond) ∈ bigW := bigW_of 423 (by decide +kernel) (by decide +kernel)
theorem kw_424 : (Cond.instanceMethod ⟨"TwoEndSearch", "deepest", "(I)I"⟩ : Cond) ∈ bigW := bigW_of 424 (by decide +kernel) (by decide +kernel)
theorem kw_425 : (Cond.selects "TwoEndSearch" ⟨"TwoEndSearch", "deepest", "(I)I"⟩ ⟨"TwoEndSearch", "deepest", "(I)I"⟩ : Cond) ∈ bigW := bigW_of 425 (by decide +kernel) (by decide +kernel)
theorem kw_426 : (Cond.code ⟨"TwoEndSearch", "deepest", "(I)I"⟩ prog_1_method_10_code 3 (some .int) : Cond) ∈ bigW := bigW_of 426 (by decide +kernel) (by decide +kernel)
theorem kw_432 : (Cond.methodLink "TwoEndSearchLaw" 66 ⟨"TwoEndSearch", "replay", "(J)Z"⟩ : Cond) ∈ bigW := bigW_of 432 (by decide +kernel) (by decide +kernel)
theorem kw_433 : (Cond.instanceMethod ⟨"TwoEndSearch", "replay", "(J)Z"⟩ : Cond) ∈ bigW := bigW_of 433 (by decide +kernel) (by decide +kernel)
theorem kw_434 : (Cond.selects "TwoEndSearch" ⟨"TwoEndSearch", "replay", "(J)Z"⟩ ⟨"TwoEndSearch", "replay", "(J)Z"⟩ : Cond) ∈ bigW := bigW_of 434 (by decide +kernel) (by decide +kernel)
theorem kw_435 : (Cond.code ⟨"TwoEndSearch", "replay", "(J)Z"⟩ prog_1_method_11_code 8 (some .boolean) : Cond) ∈ bigW := bigW_of 435 (by decide +kernel) (by decide +kernel)
theorem kw_611 : (Cond.methodLink "TwoEndSearchLaw" 59 ⟨"TwoEndSearchModel", "spread", "(II)I"⟩ : Cond) ∈ bigW := bigW_of 611 (by decide +kernel) (by decide +kernel)
theorem kw_612 : (Cond.instanceMethod ⟨"TwoEndSearchModel", "spread", "(II)I"⟩ : Cond) ∈ bigW := bigW_of 612 (by decide +kernel) (by decide +kernel)
theorem kw_613 : (Cond.selects "TwoEndSearchModel" ⟨"TwoEndSearchModel", "spread", "(II)I"⟩ ⟨"TwoEndSearchModel", "spread", "(II)I"⟩ : Cond) ∈ bigW := bigW_of 613 (by decide +kernel) (by decide +kernel)
theorem kw_614 : (Cond.code ⟨"TwoEndSearchModel", "spread", "(II)I"⟩ prog_7_method_25_code 5 (some .int) : Cond) ∈ bigW := bigW_of 614 (by decide +kernel) (by decide +kernel)
theorem kw_615 : (Cond.methodLink "TwoEndSearchLaw" 63 ⟨"TwoEndSearchModel", "deepest", "(I)I"⟩ : Cond) ∈ bigW := bigW_of 615 (by decide +kernel) (by decide +kernel)
theorem kw_616 : (Cond.instanceMethod ⟨"TwoEndSearchModel", "deepest", "(I)I"⟩ : Cond) ∈ bigW := bigW_of 616 (by decide +kernel) (by decide +kernel)
theorem kw_617 : (Cond.selects "TwoEndSearchModel" ⟨"TwoEndSearchModel", "deepest", "(I)I"⟩ ⟨"TwoEndSearchModel", "deepest", "(I)I"⟩ : Cond) ∈ bigW := bigW_of 617 (by decide +kernel) (by decide +kernel)
theorem kw_618 : (Cond.code ⟨"TwoEndSearchModel", "deepest", "(I)I"⟩ prog_7_method_26_code 2 (some .int) : Cond) ∈ bigW := bigW_of 618 (by decide +kernel) (by decide +kernel)
theorem kw_619 : (Cond.methodLink "TwoEndSearchLaw" 70 ⟨"TwoEndSearchModel", "replay", "(J)Z"⟩ : Cond) ∈ bigW := bigW_of 619 (by decide +kernel) (by decide +kernel)
theorem kw_620 : (Cond.instanceMethod ⟨"TwoEndSearchModel", "replay", "(J)Z"⟩ : Cond) ∈ bigW := bigW_of 620 (by decide +kernel) (by decide +kernel)
theorem kw_621 : (Cond.selects "TwoEndSearchModel" ⟨"TwoEndSearchModel", "replay", "(J)Z"⟩ ⟨"TwoEndSearchModel", "replay", "(J)Z"⟩ : Cond) ∈ bigW := bigW_of 621 (by decide +kernel) (by decide +kernel)
theorem kw_622 : (Cond.code ⟨"TwoEndSearchModel", "replay", "(J)Z"⟩ prog_7_method_27_code 7 (some .boolean) : Cond) ∈ bigW := bigW_of 622 (by decide +kernel) (by decide +kernel)
theorem kw_625 : (Cond.constantLong "TwoEndSearchLaw" 64 4294967295 : Cond) ∈ bigW := bigW_of 625 (by decide +kernel) (by decide +kernel)
set_option maxHeartbeats 4000000 in
set_option maxRecDepth 100000 in
/-- the law, call 7 -/
theorem lw_case_7 {p : Program} {l : Launch} {e : Env} {s : State} {m : MethodId} {below : List Frame} {meth : Method} {c : Code} {D : va_G} {q : wz_Q} {bs L : Nat} {xs : Nat → Int32} (hx : p.tables.exec = Jvm.exec) (hb : c.code = code) (hml : c.maxLocals = 4) (hown : s.vm.findClass "TwoEndSearchLaw" = some m.cls) (hts : ∀ w ∈ bigW, w.before #[Value.ref bs] s = true) (hN : wz_N wz_L s) (hK : va_K D vwCl (wz_ty q) s) (hX : va_X bs L xs s s.heap) (hbl : bs < s.heap.size) (hL : L ≤ 2049) {ax n i : Nat} {az : Nat → Nat} (hi : i + 4 ≤ L) (hk9 : ∀ (k : Nat) (sg tu : Nat → Nat → Nat) (od : Nat → Nat) (sa gl : Nat) (F : cx_F) (WX : wz_G) (th kn bk : Int32) (sz : Nat) (fd : Int32) (ln : Nat) (fm : Int32) (fw : Int64) (to fo sb gb st sp : Nat → Int32) (wy : Nat → Int64) (se ms ts r1 r2 : Nat → Int32), cx q ax n k sg tu od sa gl F WX → cz_h n k sg tu od sa gl F kn bk sz fd ln fw to fo sb gb st sp wy se ms ts → ∀ (H : Heap) (locs : List Loc) (ls : Array Slot), va_P D vwCl ([WX.flatten, zo_W q az th n k kn bk sz fd ln fm fw, zt_W q az to fo, zs_W q az sb gb, zb_W q az st sp wy se, zf_W q az ms ts, zq_W q az r1 r2] : wz_G).flatten H → va_D (fun k9 : Nat => s.heap.size ≤ k9) ([WX.flatten, zo_W q az th n k kn bk sz fd ln fm fw, zt_W q az to fo, zs_W q az sb gb, zb_W q az st sp wy se, zf_W q az ms ts, zq_W q az r1 r2] : wz_G).flatten → va_S (fun k9 : Nat => s.heap.size ≤ k9) s.heap H locs → lv_has ls 4 [(0, .ref bs), (1, .ref ax), (2, .ref (az 0)), (3, .int (nI i))] → W p l e room_1 s m #[Value.ref bs] below meth c H locs 600000 7302250 (lw_Z below #[Value.ref bs] s) (F0 m 454 ls [])) : ∀ (k : Nat) (sg tu : Nat → Nat → Nat) (od : Nat → Nat) (sa gl : Nat) (F : cx_F) (WX : wz_G) (th kn bk : Int32) (sz : Nat) (fd : Int32) (ln : Nat) (fm : Int32) (fw : Int64) (to fo sb gb st sp : Nat → Int32) (wy : Nat → Int64) (se ms ts r1 r2 : Nat → Int32), cx q ax n k sg tu od sa gl F WX → cz_h n k sg tu od sa gl F kn bk sz fd ln fw to fo sb gb st sp wy se ms ts → ∀ (H : Heap) (locs : List Loc) (ls : Array Slot), va_P D vwCl ([WX.flatten, zo_W q az th n k kn bk sz fd ln fm fw, zt_W q az to fo, zs_W q az sb gb, zb_W q az st sp wy se, zf_W q az ms ts, zq_W q az r1 r2] : wz_G).flatten H → va_D (fun k9 : Nat => s.heap.size ≤ k9) ([WX.flatten, zo_W q az th n k kn bk sz fd ln fm fw, zt_W q az to fo, zs_W q az sb gb, zb_W q az st sp wy se, zf_W q az ms ts, zq_W q az r1 r2] : wz_G).flatten → va_S (fun k9 : Nat => s.heap.size ≤ k9) s.heap H locs → lv_has ls 4 [(0, .ref bs), (1, .ref ax), (2, .ref (az 0)), (3, .int (nI i))] → W p l e room_1 s m #[Value.ref bs] below meth c H locs 600000 7302250 (lw_Z below #[Value.ref bs] s) (F0 m 334 ls []) := by
  intro k sg tu od sa gl F WX th kn bk sz fd ln fm fw to fo sb gb st sp wy se ms ts r1 r2 hcx hcz H locs ls hP hD hS hl
  obtain ⟨⟨hn1, hn, hk⟩, hzm, hzs, hzg, hzl, hkn, hfd⟩ := hcz
  have hA : ∀ k9 : Nat, s.heap.size ≤ k9 → (fun k9 : Nat => s.heap.size ≤ k9) k9 := fun _ h => h
  have hbA : ¬ (fun k9 : Nat => s.heap.size ≤ k9) bs := Nat.not_le.mpr hbl
  refine lv_aload_n hx hb d_L_law_334 rfl (lv_at hl 1 rfl) ?_
  refine lv_aload_n hx hb d_L_law_335 rfl (lv_at hl 0 rfl) ?_
  refine lv_iload_n hx hb d_L_law_336 rfl (lv_at hl 3 rfl) ?_
  refine lv_iconst (v := nI 1) hx hb d_L_law_337 (by decide) ?_
  refine lv_iadd hx hb d_L_law_338 ?_
  refine wz_topi (y := nI (i + 1)) (nI_add i 1) ?_
  refine va_sld hx hb hX hbl hbA hS (vp_in_nI (n := (i + 1)) (N := L) (by omega) (by omega)) d_L_law_339 ?_
  refine wz_topi (y := xs (i + 1)) (congrArg xs (nI_clamp (by omega))) ?_
  refine lv_aload_n hx hb d_L_law_340 rfl (lv_at hl 0 rfl) ?_
  refine lv_iload_n hx hb d_L_law_341 rfl (lv_at hl 3 rfl) ?_
  refine lv_iconst (v := nI 2) hx hb d_L_law_342 (by decide) ?_
  refine lv_iadd hx hb d_L_law_343 ?_
  refine wz_topi (y := nI (i + 2)) (nI_add i 2) ?_
  refine va_sld hx hb hX hbl hbA hS (vp_in_nI (n := (i + 2)) (N := L) (by omega) (by omega)) d_L_law_344 ?_
  refine wz_topi (y := xs (i + 2)) (congrArg xs (nI_clamp (by omega))) ?_
  obtain ⟨fs, hfs⟩ := cx_hd hcx
  have hQ := wz_split (n := 7) (gc := [WX.flatten]) (gr := [zo_W q az th n k kn bk sz fd ln fm fw, zt_W q az to fo, zs_W q az sb gb, zb_W q az st sp wy se, zf_W q az ms ts, zq_W q az r1 r2]) [0] [1, 2, 3, 4, 5, 6] rfl (by decide) rfl rfl hP hD
  refine wz_calli (va_runV (As := [.int (xs (i + 1)), .int (xs (i + 2))]) (rest := []) ⟨hx, hb, hml, hown, hts⟩ (wz_flat_Mi (c_X_spread l D q ax n k sg tu od sa gl F (xs (i + 1)) (xs (i + 2)) WX hcx) _) (cwV 2 hts (wz_goodV kw_404 kw_405 kw_406 kw_30 kw_407) rfl rfl rfl (by decide +kernel) ⟨Nat.le_of_ble_eq_true rfl, Nat.le_of_ble_eq_true rfl⟩) (wz_preV (gi := 0) (k := 0) hN hK hQ wz_L_ok rfl hfs rfl) rfl rfl hl.1 rfl (lv_room (Nat.le_of_ble_eq_true rfl)) d_L_law_345 ⟨Nat.le_of_ble_eq_true rfl, Nat.le_of_ble_eq_true rfl⟩) hQ hS hA (fun v_345 gx H locs hp hP hD hS => ?_)
  obtain ⟨WY, rfl, hpx⟩ := hp
  obtain ⟨hP, hD⟩ := wz_ord (n := 7) (gs' := [WY.flatten, zo_W q az th n k kn bk sz fd ln fm fw, zt_W q az to fo, zs_W q az sb gb, zb_W q az st sp wy se, zf_W q az ms ts, zq_W q az r1 r2]) [0, 1, 2, 3, 4, 5, 6] rfl (by decide) rfl hP hD
  refine lv_aload_n hx hb d_L_law_348 rfl (lv_at hl 2 rfl) ?_
  refine lv_aload_n hx hb d_L_law_349 rfl (lv_at hl 0 rfl) ?_
  refine lv_iload_n hx hb d_L_law_350 rfl (lv_at hl 3 rfl) ?_
  refine lv_iconst (v := nI 1) hx hb d_L_law_351 (by decide) ?_
  refine lv_iadd hx hb d_L_law_352 ?_
  refine wz_topi (y := nI (i + 1)) (nI_add i 1) ?_
  refine va_sld hx hb hX hbl hbA hS (vp_in_nI (n := (i + 1)) (N := L) (by omega) (by omega)) d_L_law_353 ?_
  refine wz_topi (y := xs (i + 1)) (congrArg xs (nI_clamp (by omega))) ?_
  refine lv_aload_n hx hb d_L_law_354 rfl (lv_at hl 0 rfl) ?_
  refine lv_iload_n hx hb d_L_law_355 rfl (lv_at hl 3 rfl) ?_
  refine lv_iconst (v := nI 2) hx hb d_L_law_356 (by decide) ?_
  refine lv_iadd hx hb d_L_law_357 ?_
  refine wz_topi (y := nI (i + 2)) (nI_add i 2) ?_
  refine va_sld hx hb hX hbl hbA hS (vp_in_nI (n := (i + 2)) (N := L) (by omega) (by omega)) d_L_law_358 ?_
  refine wz_topi (y := xs (i + 2)) (congrArg xs (nI_clamp (by omega))) ?_
  have hQ := wz_split (n := 7) (gc := [zo_W q az th n k kn bk sz fd ln fm fw, zt_W q az to fo, zs_W q az sb gb, zb_W q az st sp wy se]) (gr := [WY.flatten, zf_W q az ms ts, zq_W q az r1 r2]) [1, 2, 3, 4] [0, 5, 6] rfl (by decide) rfl rfl hP hD
  refine wz_calli (va_runV (As := [.int (xs (i + 1)), .int (xs (i + 2))]) (rest := [.int v_345]) ⟨hx, hb, hml, hown, hts⟩ (c_Z_spread l D q az th n k kn bk sz fd ln fm fw to fo sb gb st sp wy se sg tu od sa gl (xs (i + 1)) (xs (i + 2)) hn hk hzm hzs hzg (fun mu hm h1 h2 => (hkn mu hm h1).1 h2) _) (cwV 2 hts (wz_goodV kw_611 kw_612 kw_613 kw_37 kw_614) rfl rfl rfl (by decide +kernel) ⟨Nat.le_of_ble_eq_true rfl, Nat.le_of_ble_eq_true rfl⟩) (wz_preV (gi := 0) (k := 0) hN hK hQ wz_L_ok rfl rfl rfl) rfl rfl hl.1 rfl (lv_room (Nat.le_of_ble_eq_true rfl)) d_L_law_359 ⟨Nat.le_of_ble_eq_true rfl, Nat.le_of_ble_eq_true rfl⟩) hQ hS hA (fun v_359 gx H locs hpz hP hD hS => ?_)
  rcases hpx with ⟨hrf, hvx, hcx'⟩ | ⟨mu, mo, hmu, hx1, hmo, hy1, hcx', T, ly, dp, cb, c9, hbT, hcb, hvx, hc9⟩
  · skip
    obtain ⟨_, hvz, rfl⟩ := hpz.resolve_right (fun ⟨mu, mo, _, _, _, _, _, h1, h2, h3, h4, _⟩ => lw_rf hrf h1 h2 h3 h4)
    subst hvx
    subst hvz
    obtain ⟨hP, hD⟩ := wz_ord (n := 7) (gs' := [WY.flatten, zo_W q az (nI 0) n k kn bk sz fd ln fm fw, zt_W q az to fo, zs_W q az sb gb, zb_W q az st sp wy se, zf_W q az ms ts, zq_W q az r1 r2]) [4, 0, 1, 2, 3, 5, 6] rfl (by decide) rfl hP hD
    refine lv_icmp_eq (tgt := 454) hx hb d_L_law_362 (by decide) (fun hc => ?_) (fun hc => ?_)
    · skip
      exact hk9 k sg tu od sa gl F WY (nI 0) kn bk sz fd ln fm fw to fo sb gb st sp wy se ms ts r1 r2 hcx' ⟨⟨hn1, hn, hk⟩, hzm, hzs, hzg, hzl, hkn, hfd⟩ _ _ _ hP hD hS (lv_sub hl [0, 1, 2, 3] rfl)
    · skip
      exact absurd rfl hc
  · skip
    obtain ⟨mu2, mo2, S, st1, sp1, wy1, se1, hmu2, hx2, hmo2, hy2, hzk, rfl, hvz⟩ := hpz.resolve_left (fun ⟨hrf, _⟩ => lw_rf hrf hmu hx1 hmo hy1)
    obtain rfl : mu = mu2 := (nI_eq (by omega) (by omega)).mp (hx1.symm.trans hx2)
    obtain rfl : mo = mo2 := (nI_eq (by omega) (by omega)).mp (hy1.symm.trans hy2)
    have hkn2 := cz_kn0 (gl := gl) hmu hzk
    have hee := zcn_ball hzk.2.1 hbT hcb hc9
    subst hee
    subst hvx
    subst hvz
    obtain ⟨hP, hD⟩ := wz_ord (n := 7) (gs' := [WY.flatten, zo_W q az (nI 0) n k (nI mu) (nI 0) S.1.length fd ln fm fw, zt_W q az to fo, zs_W q az sb gb, zb_W q az st1 sp1 wy1 se1, zf_W q az ms ts, zq_W q az r1 r2]) [4, 0, 1, 2, 3, 5, 6] rfl (by decide) rfl hP hD
    refine lv_icmp_eq (tgt := 454) hx hb d_L_law_362 (by decide) (fun hc => ?_) (fun hc => ?_)
    · skip
      exact hk9 k sg tu od sa gl F WY (nI 0) (nI mu) (nI 0) S.1.length fd ln fm fw to fo sb gb st1 sp1 wy1 se1 ms ts r1 r2 hcx' ⟨⟨hn1, hn, hk⟩, hzm, hzs, hzg, hzl, hkn2, hfd⟩ _ _ _ hP hD hS (lv_sub hl [0, 1, 2, 3] rfl)
    · skip
      exact absurd rfl hc
set_option maxHeartbeats 4000000 in
set_option maxRecDepth 100000 in
/-- the law, call 8 -/
theorem lw_case_8 {p : Program} {l : Launch} {e : Env} {s : State} {m : MethodId} {below : List Frame} {meth : Method} {c : Code} {D : va_G} {q : wz_Q} {bs L : Nat} {xs : Nat → Int32} (hx : p.tables.exec = Jvm.exec) (hb : c.code = code) (hml : c.maxLocals = 4) (hown : s.vm.findClass "TwoEndSearchLaw" = some m.cls) (hts : ∀ w ∈ bigW, w.before #[Value.ref bs] s = true) (hN : wz_N wz_L s) (hK : va_K D vwCl (wz_ty q) s) (hX : va_X bs L xs s s.heap) (hbl : bs < s.heap.size) (hL : L ≤ 2049) {ax n i : Nat} {az : Nat → Nat} (hi : i + 4 ≤ L) (hk9 : ∀ (k : Nat) (sg tu : Nat → Nat → Nat) (od : Nat → Nat) (sa gl : Nat) (F : cx_F) (WX : wz_G) (th kn bk : Int32) (sz : Nat) (fd : Int32) (ln : Nat) (fm : Int32) (fw : Int64) (to fo sb gb st sp : Nat → Int32) (wy : Nat → Int64) (se ms ts r1 r2 : Nat → Int32), cx q ax n k sg tu od sa gl F WX → cz_h n k sg tu od sa gl F kn bk sz fd ln fw to fo sb gb st sp wy se ms ts → ∀ (H : Heap) (locs : List Loc) (ls : Array Slot), va_P D vwCl ([WX.flatten, zo_W q az th n k kn bk sz fd ln fm fw, zt_W q az to fo, zs_W q az sb gb, zb_W q az st sp wy se, zf_W q az ms ts, zq_W q az r1 r2] : wz_G).flatten H → va_D (fun k9 : Nat => s.heap.size ≤ k9) ([WX.flatten, zo_W q az th n k kn bk sz fd ln fm fw, zt_W q az to fo, zs_W q az sb gb, zb_W q az st sp wy se, zf_W q az ms ts, zq_W q az r1 r2] : wz_G).flatten → va_S (fun k9 : Nat => s.heap.size ≤ k9) s.heap H locs → lv_has ls 4 [(0, .ref bs), (1, .ref ax), (2, .ref (az 0)), (3, .int (nI i))] → W p l e room_1 s m #[Value.ref bs] below meth c H locs 600000 7302250 (lw_Z below #[Value.ref bs] s) (F0 m 454 ls [])) : ∀ (k : Nat) (sg tu : Nat → Nat → Nat) (od : Nat → Nat) (sa gl : Nat) (F : cx_F) (WX : wz_G) (th kn bk : Int32) (sz : Nat) (fd : Int32) (ln : Nat) (fm : Int32) (fw : Int64) (to fo sb gb st sp : Nat → Int32) (wy : Nat → Int64) (se ms ts r1 r2 : Nat → Int32), cx q ax n k sg tu od sa gl F WX → cz_h n k sg tu od sa gl F kn bk sz fd ln fw to fo sb gb st sp wy se ms ts → ∀ (H : Heap) (locs : List Loc) (ls : Array Slot), va_P D vwCl ([WX.flatten, zo_W q az th n k kn bk sz fd ln fm fw, zt_W q az to fo, zs_W q az sb gb, zb_W q az st sp wy se, zf_W q az ms ts, zq_W q az r1 r2] : wz_G).flatten H → va_D (fun k9 : Nat => s.heap.size ≤ k9) ([WX.flatten, zo_W q az th n k kn bk sz fd ln fm fw, zt_W q az to fo, zs_W q az sb gb, zb_W q az st sp wy se, zf_W q az ms ts, zq_W q az r1 r2] : wz_G).flatten → va_S (fun k9 : Nat => s.heap.size ≤ k9) s.heap H locs → lv_has ls 4 [(0, .ref bs), (1, .ref ax), (2, .ref (az 0)), (3, .int (nI i))] → W p l e room_1 s m #[Value.ref bs] below meth c H locs 600000 7302250 (lw_Z below #[Value.ref bs] s) (F0 m 367 ls []) := by
  intro k sg tu od sa gl F WX th kn bk sz fd ln fm fw to fo sb gb st sp wy se ms ts r1 r2 hcx hcz H locs ls hP hD hS hl
  obtain ⟨⟨hn1, hn, hk⟩, hzm, hzs, hzg, hzl, hkn, hfd⟩ := hcz
  have hA : ∀ k9 : Nat, s.heap.size ≤ k9 → (fun k9 : Nat => s.heap.size ≤ k9) k9 := fun _ h => h
  have hbA : ¬ (fun k9 : Nat => s.heap.size ≤ k9) bs := Nat.not_le.mpr hbl
  refine lv_aload_n hx hb d_L_law_367 rfl (lv_at hl 1 rfl) ?_
  refine lv_aload_n hx hb d_L_law_368 rfl (lv_at hl 0 rfl) ?_
  refine lv_iload_n hx hb d_L_law_369 rfl (lv_at hl 3 rfl) ?_
  refine lv_iconst (v := nI 1) hx hb d_L_law_370 (by decide) ?_
  refine lv_iadd hx hb d_L_law_371 ?_
  refine wz_topi (y := nI (i + 1)) (nI_add i 1) ?_
  refine va_sld hx hb hX hbl hbA hS (vp_in_nI (n := (i + 1)) (N := L) (by omega) (by omega)) d_L_law_372 ?_
  refine wz_topi (y := xs (i + 1)) (congrArg xs (nI_clamp (by omega))) ?_
  obtain ⟨fs, hfs⟩ := cx_hd hcx
  have hQ := wz_split (n := 7) (gc := [WX.flatten]) (gr := [zo_W q az th n k kn bk sz fd ln fm fw, zt_W q az to fo, zs_W q az sb gb, zb_W q az st sp wy se, zf_W q az ms ts, zq_W q az r1 r2]) [0] [1, 2, 3, 4, 5, 6] rfl (by decide) rfl rfl hP hD
  refine wz_calli (va_runV (As := [.int (xs (i + 1))]) (rest := []) ⟨hx, hb, hml, hown, hts⟩ (wz_flat_Mi (c_X_deepest l D q ax n k sg tu od sa gl F (xs (i + 1)) WX hcx) _) (cwV 1 hts (wz_goodV kw_423 kw_424 kw_425 kw_30 kw_426) rfl rfl rfl (by decide +kernel) ⟨Nat.le_of_ble_eq_true rfl, Nat.le_of_ble_eq_true rfl⟩) (wz_preV (gi := 0) (k := 0) hN hK hQ wz_L_ok rfl hfs rfl) rfl rfl hl.1 rfl (lv_room (Nat.le_of_ble_eq_true rfl)) d_L_law_373 ⟨Nat.le_of_ble_eq_true rfl, Nat.le_of_ble_eq_true rfl⟩) hQ hS hA (fun v_373 gx H locs hp hP hD hS => ?_)
  obtain ⟨WY, rfl, hpx⟩ := hp
  obtain ⟨hP, hD⟩ := wz_ord (n := 7) (gs' := [WY.flatten, zo_W q az th n k kn bk sz fd ln fm fw, zt_W q az to fo, zs_W q az sb gb, zb_W q az st sp wy se, zf_W q az ms ts, zq_W q az r1 r2]) [0, 1, 2, 3, 4, 5, 6] rfl (by decide) rfl hP hD
  refine lv_aload_n hx hb d_L_law_376 rfl (lv_at hl 2 rfl) ?_
  refine lv_aload_n hx hb d_L_law_377 rfl (lv_at hl 0 rfl) ?_
  refine lv_iload_n hx hb d_L_law_378 rfl (lv_at hl 3 rfl) ?_
  refine lv_iconst (v := nI 1) hx hb d_L_law_379 (by decide) ?_
  refine lv_iadd hx hb d_L_law_380 ?_
  refine wz_topi (y := nI (i + 1)) (nI_add i 1) ?_
  refine va_sld hx hb hX hbl hbA hS (vp_in_nI (n := (i + 1)) (N := L) (by omega) (by omega)) d_L_law_381 ?_
  refine wz_topi (y := xs (i + 1)) (congrArg xs (nI_clamp (by omega))) ?_
  have hQ := wz_split (n := 7) (gc := [zo_W q az th n k kn bk sz fd ln fm fw, zt_W q az to fo, zs_W q az sb gb, zb_W q az st sp wy se]) (gr := [WY.flatten, zf_W q az ms ts, zq_W q az r1 r2]) [1, 2, 3, 4] [0, 5, 6] rfl (by decide) rfl rfl hP hD
  refine wz_calli (va_runV (As := [.int (xs (i + 1))]) (rest := [.int v_373]) ⟨hx, hb, hml, hown, hts⟩ (c_Z_deepest l D q az th n k kn bk sz fd ln fm fw to fo sb gb st sp wy se sg tu od sa gl (xs (i + 1)) hn hk hzm hzs hzg (fun mu hm h1 h2 => (hkn mu hm h1).1 h2) _) (cwV 1 hts (wz_goodV kw_615 kw_616 kw_617 kw_37 kw_618) rfl rfl rfl (by decide +kernel) ⟨Nat.le_of_ble_eq_true rfl, Nat.le_of_ble_eq_true rfl⟩) (wz_preV (gi := 0) (k := 0) hN hK hQ wz_L_ok rfl rfl rfl) rfl rfl hl.1 rfl (lv_room (Nat.le_of_ble_eq_true rfl)) d_L_law_382 ⟨Nat.le_of_ble_eq_true rfl, Nat.le_of_ble_eq_true rfl⟩) hQ hS hA (fun v_382 gx H locs hpz hP hD hS => ?_)
  rcases hpx with ⟨hrf, hvx, hcx'⟩ | ⟨mu, hmu, hx1, hcx', T, ly, dp, hbT, hvx⟩
  · skip
    obtain ⟨_, hvz, rfl⟩ := hpz.resolve_right (fun ⟨mu, _, _, _, _, _, h1, h2, _⟩ => lw_rf (y := nI 0) (mo := 0) (Or.inl hrf) h1 h2 (by decide) rfl)
    subst hvx
    subst hvz
    obtain ⟨hP, hD⟩ := wz_ord (n := 7) (gs' := [WY.flatten, zo_W q az (nI 0) n k kn bk sz fd ln fm fw, zt_W q az to fo, zs_W q az sb gb, zb_W q az st sp wy se, zf_W q az ms ts, zq_W q az r1 r2]) [4, 0, 1, 2, 3, 5, 6] rfl (by decide) rfl hP hD
    refine lv_icmp_eq (tgt := 454) hx hb d_L_law_385 (by decide) (fun hc => ?_) (fun hc => ?_)
    · skip
      exact hk9 k sg tu od sa gl F WY (nI 0) kn bk sz fd ln fm fw to fo sb gb st sp wy se ms ts r1 r2 hcx' ⟨⟨hn1, hn, hk⟩, hzm, hzs, hzg, hzl, hkn, hfd⟩ _ _ _ hP hD hS (lv_sub hl [0, 1, 2, 3] rfl)
    · skip
      exact absurd rfl hc
  · skip
    obtain ⟨mu2, S, st1, sp1, wy1, se1, hmu2, hx2, hzk, rfl, y9, d9, hy9, hd9, hvz⟩ := hpz.resolve_left (fun ⟨hrf, _⟩ => lw_rf (y := nI 0) (mo := 0) (Or.inl hrf) hmu hx1 (by decide) rfl)
    obtain rfl : mu = mu2 := (nI_eq (by omega) (by omega)).mp (hx1.symm.trans hx2)
    have hkn2 := cz_kn0 (gl := gl) hmu hzk
    obtain rfl : dp = d9 := zdp_ball hzk.2.1 hbT hy9 hd9
    subst hvx
    subst hvz
    obtain ⟨hP, hD⟩ := wz_ord (n := 7) (gs' := [WY.flatten, zo_W q az (nI 0) n k (nI mu) (nI 0) S.1.length fd ln fm fw, zt_W q az to fo, zs_W q az sb gb, zb_W q az st1 sp1 wy1 se1, zf_W q az ms ts, zq_W q az r1 r2]) [4, 0, 1, 2, 3, 5, 6] rfl (by decide) rfl hP hD
    refine lv_icmp_eq (tgt := 454) hx hb d_L_law_385 (by decide) (fun hc => ?_) (fun hc => ?_)
    · skip
      exact hk9 k sg tu od sa gl F WY (nI 0) (nI mu) (nI 0) S.1.length fd ln fm fw to fo sb gb st1 sp1 wy1 se1 ms ts r1 r2 hcx' ⟨⟨hn1, hn, hk⟩, hzm, hzs, hzg, hzl, hkn2, hfd⟩ _ _ _ hP hD hS (lv_sub hl [0, 1, 2, 3] rfl)
    · skip
      exact absurd rfl hc
set_option maxHeartbeats 4000000 in
set_option maxRecDepth 100000 in
/-- the law, call 9 -/
theorem lw_case_9 {p : Program} {l : Launch} {e : Env} {s : State} {m : MethodId} {below : List Frame} {meth : Method} {c : Code} {D : va_G} {q : wz_Q} {bs L : Nat} {xs : Nat → Int32} (hx : p.tables.exec = Jvm.exec) (hb : c.code = code) (hml : c.maxLocals = 4) (hown : s.vm.findClass "TwoEndSearchLaw" = some m.cls) (hts : ∀ w ∈ bigW, w.before #[Value.ref bs] s = true) (hN : wz_N wz_L s) (hK : va_K D vwCl (wz_ty q) s) (hX : va_X bs L xs s s.heap) (hbl : bs < s.heap.size) (hL : L ≤ 2049) {ax n i : Nat} {az : Nat → Nat} (hi : i + 4 ≤ L) (hk9 : ∀ (k : Nat) (sg tu : Nat → Nat → Nat) (od : Nat → Nat) (sa gl : Nat) (F : cx_F) (WX : wz_G) (th kn bk : Int32) (sz : Nat) (fd : Int32) (ln : Nat) (fm : Int32) (fw : Int64) (to fo sb gb st sp : Nat → Int32) (wy : Nat → Int64) (se ms ts r1 r2 : Nat → Int32), cx q ax n k sg tu od sa gl F WX → cz_h n k sg tu od sa gl F kn bk sz fd ln fw to fo sb gb st sp wy se ms ts → ∀ (H : Heap) (locs : List Loc) (ls : Array Slot), va_P D vwCl ([WX.flatten, zo_W q az th n k kn bk sz fd ln fm fw, zt_W q az to fo, zs_W q az sb gb, zb_W q az st sp wy se, zf_W q az ms ts, zq_W q az r1 r2] : wz_G).flatten H → va_D (fun k9 : Nat => s.heap.size ≤ k9) ([WX.flatten, zo_W q az th n k kn bk sz fd ln fm fw, zt_W q az to fo, zs_W q az sb gb, zb_W q az st sp wy se, zf_W q az ms ts, zq_W q az r1 r2] : wz_G).flatten → va_S (fun k9 : Nat => s.heap.size ≤ k9) s.heap H locs → lv_has ls 4 [(0, .ref bs), (1, .ref ax), (2, .ref (az 0)), (3, .int (nI i))] → W p l e room_1 s m #[Value.ref bs] below meth c H locs 600000 7302250 (lw_Z below #[Value.ref bs] s) (F0 m 454 ls [])) : ∀ (k : Nat) (sg tu : Nat → Nat → Nat) (od : Nat → Nat) (sa gl : Nat) (F : cx_F) (WX : wz_G) (th kn bk : Int32) (sz : Nat) (fd : Int32) (ln : Nat) (fm : Int32) (fw : Int64) (to fo sb gb st sp : Nat → Int32) (wy : Nat → Int64) (se ms ts r1 r2 : Nat → Int32), cx q ax n k sg tu od sa gl F WX → cz_h n k sg tu od sa gl F kn bk sz fd ln fw to fo sb gb st sp wy se ms ts → ∀ (H : Heap) (locs : List Loc) (ls : Array Slot), va_P D vwCl ([WX.flatten, zo_W q az th n k kn bk sz fd ln fm fw, zt_W q az to fo, zs_W q az sb gb, zb_W q az st sp wy se, zf_W q az ms ts, zq_W q az r1 r2] : wz_G).flatten H → va_D (fun k9 : Nat => s.heap.size ≤ k9) ([WX.flatten, zo_W q az th n k kn bk sz fd ln fm fw, zt_W q az to fo, zs_W q az sb gb, zb_W q az st sp wy se, zf_W q az ms ts, zq_W q az r1 r2] : wz_G).flatten → va_S (fun k9 : Nat => s.heap.size ≤ k9) s.heap H locs → lv_has ls 4 [(0, .ref bs), (1, .ref ax), (2, .ref (az 0)), (3, .int (nI i))] → W p l e room_1 s m #[Value.ref bs] below meth c H locs 600000 7302250 (lw_Z below #[Value.ref bs] s) (F0 m 390 ls []) := by
  intro k sg tu od sa gl F WX th kn bk sz fd ln fm fw to fo sb gb st sp wy se ms ts r1 r2 hcx hcz H locs ls hP hD hS hl
  obtain ⟨⟨hn1, hn, hk⟩, hzm, hzs, hzg, hzl, hkn, hfd⟩ := hcz
  have hA : ∀ k9 : Nat, s.heap.size ≤ k9 → (fun k9 : Nat => s.heap.size ≤ k9) k9 := fun _ h => h
  have hbA : ¬ (fun k9 : Nat => s.heap.size ≤ k9) bs := Nat.not_le.mpr hbl
  refine lv_aload_n hx hb d_L_law_390 rfl (lv_at hl 1 rfl) ?_
  refine lv_aload_n hx hb d_L_law_391 rfl (lv_at hl 0 rfl) ?_
  refine lv_iload_n hx hb d_L_law_392 rfl (lv_at hl 3 rfl) ?_
  refine lv_iconst (v := nI 1) hx hb d_L_law_393 (by decide) ?_
  refine lv_iadd hx hb d_L_law_394 ?_
  refine wz_topi (y := nI (i + 1)) (nI_add i 1) ?_
  refine va_sld hx hb hX hbl hbA hS (vp_in_nI (n := (i + 1)) (N := L) (by omega) (by omega)) d_L_law_395 ?_
  refine wz_topi (y := xs (i + 1)) (congrArg xs (nI_clamp (by omega))) ?_
  refine lv_i2l hx hb d_L_law_396 rfl ?_
  refine lv_bipush (v := nI 32) hx hb d_L_law_397 (by decide) ?_
  refine lv_lshl hx hb d_L_law_399 rfl ?_
  refine lv_aload_n hx hb d_L_law_400 rfl (lv_at hl 0 rfl) ?_
  refine lv_iload_n hx hb d_L_law_401 rfl (lv_at hl 3 rfl) ?_
  refine lv_iconst (v := nI 2) hx hb d_L_law_402 (by decide) ?_
  refine lv_iadd hx hb d_L_law_403 ?_
  refine wz_topi (y := nI (i + 2)) (nI_add i 2) ?_
  refine va_sld hx hb hX hbl hbA hS (vp_in_nI (n := (i + 2)) (N := L) (by omega) (by omega)) d_L_law_404 ?_
  refine wz_topi (y := xs (i + 2)) (congrArg xs (nI_clamp (by omega))) ?_
  refine lv_i2l hx hb d_L_law_405 rfl ?_
  refine lv_ldc2 (v := (4294967295)) hx hb hown (hts _ kw_625) d_L_law_406 ?_
  refine lv_land hx hb d_L_law_409 ?_
  refine lv_lor hx hb d_L_law_410 ?_
  obtain ⟨fs, hfs⟩ := cx_hd hcx
  have hQ := wz_split (n := 7) (gc := [WX.flatten]) (gr := [zo_W q az th n k kn bk sz fd ln fm fw, zt_W q az to fo, zs_W q az sb gb, zb_W q az st sp wy se, zf_W q az ms ts, zq_W q az r1 r2]) [0] [1, 2, 3, 4, 5, 6] rfl (by decide) rfl rfl hP hD
  refine wz_calli (va_runV (As := [.long ((((xs (i + 1)).toInt64) <<< ((nI 32).toInt64 &&& 63)) ||| (((xs (i + 2)).toInt64) &&& (4294967295)))]) (rest := []) ⟨hx, hb, hml, hown, hts⟩ (wz_flat_Mi (c_X_replay l D q ax n k sg tu od sa gl F ((((xs (i + 1)).toInt64) <<< ((nI 32).toInt64 &&& 63)) ||| (((xs (i + 2)).toInt64) &&& (4294967295))) WX hcx) _) (cwV 1 hts (wz_goodV kw_432 kw_433 kw_434 kw_30 kw_435) rfl rfl rfl (by decide +kernel) ⟨Nat.le_of_ble_eq_true rfl, Nat.le_of_ble_eq_true rfl⟩) (wz_preV (gi := 0) (k := 0) hN hK hQ wz_L_ok rfl hfs rfl) rfl rfl hl.1 rfl (lv_room (Nat.le_of_ble_eq_true rfl)) d_L_law_411 ⟨Nat.le_of_ble_eq_true rfl, Nat.le_of_ble_eq_true rfl⟩) hQ hS hA (fun v_411 gx H locs hp hP hD hS => ?_)
  obtain ⟨WY, rfl, hpx⟩ := hp
  obtain ⟨hP, hD⟩ := wz_ord (n := 7) (gs' := [WY.flatten, zo_W q az th n k kn bk sz fd ln fm fw, zt_W q az to fo, zs_W q az sb gb, zb_W q az st sp wy se, zf_W q az ms ts, zq_W q az r1 r2]) [0, 1, 2, 3, 4, 5, 6] rfl (by decide) rfl hP hD
  obtain ⟨hcx', hvx⟩ := hpx
  refine lv_aload_n hx hb d_L_law_414 rfl (lv_at hl 2 rfl) ?_
  refine lv_aload_n hx hb d_L_law_415 rfl (lv_at hl 0 rfl) ?_
  refine lv_iload_n hx hb d_L_law_416 rfl (lv_at hl 3 rfl) ?_
  refine lv_iconst (v := nI 1) hx hb d_L_law_417 (by decide) ?_
  refine lv_iadd hx hb d_L_law_418 ?_
  refine wz_topi (y := nI (i + 1)) (nI_add i 1) ?_
  refine va_sld hx hb hX hbl hbA hS (vp_in_nI (n := (i + 1)) (N := L) (by omega) (by omega)) d_L_law_419 ?_
  refine wz_topi (y := xs (i + 1)) (congrArg xs (nI_clamp (by omega))) ?_
  refine lv_i2l hx hb d_L_law_420 rfl ?_
  refine lv_bipush (v := nI 32) hx hb d_L_law_421 (by decide) ?_
  refine lv_lshl hx hb d_L_law_423 rfl ?_
  refine lv_aload_n hx hb d_L_law_424 rfl (lv_at hl 0 rfl) ?_
  refine lv_iload_n hx hb d_L_law_425 rfl (lv_at hl 3 rfl) ?_
  refine lv_iconst (v := nI 2) hx hb d_L_law_426 (by decide) ?_
  refine lv_iadd hx hb d_L_law_427 ?_
  refine wz_topi (y := nI (i + 2)) (nI_add i 2) ?_
  refine va_sld hx hb hX hbl hbA hS (vp_in_nI (n := (i + 2)) (N := L) (by omega) (by omega)) d_L_law_428 ?_
  refine wz_topi (y := xs (i + 2)) (congrArg xs (nI_clamp (by omega))) ?_
  refine lv_i2l hx hb d_L_law_429 rfl ?_
  refine lv_ldc2 (v := (4294967295)) hx hb hown (hts _ kw_625) d_L_law_430 ?_
  refine lv_land hx hb d_L_law_433 ?_
  refine lv_lor hx hb d_L_law_434 ?_
  have hQ := wz_split (n := 7) (gc := [zo_W q az th n k kn bk sz fd ln fm fw, zt_W q az to fo, zs_W q az sb gb]) (gr := [WY.flatten, zb_W q az st sp wy se, zf_W q az ms ts, zq_W q az r1 r2]) [1, 2, 3] [0, 4, 5, 6] rfl (by decide) rfl rfl hP hD
  refine wz_calli (va_runV (As := [.long ((((xs (i + 1)).toInt64) <<< ((nI 32).toInt64 &&& 63)) ||| (((xs (i + 2)).toInt64) &&& (4294967295)))]) (rest := [.int v_411]) ⟨hx, hb, hml, hown, hts⟩ (c_Z_replay l D q az th n k kn bk sz fd ln fm fw to fo sb gb sg tu od sa gl ((((xs (i + 1)).toInt64) <<< ((nI 32).toInt64 &&& 63)) ||| (((xs (i + 2)).toInt64) &&& (4294967295))) hn hk hzm hzs hzg _) (cwV 1 hts (wz_goodV kw_619 kw_620 kw_621 kw_37 kw_622) rfl rfl rfl (by decide +kernel) ⟨Nat.le_of_ble_eq_true rfl, Nat.le_of_ble_eq_true rfl⟩) (wz_preV (gi := 0) (k := 0) hN hK hQ wz_L_ok rfl rfl rfl) rfl rfl hl.1 rfl (lv_room (Nat.le_of_ble_eq_true rfl)) d_L_law_435 ⟨Nat.le_of_ble_eq_true rfl, Nat.le_of_ble_eq_true rfl⟩) hQ hS hA (fun v_435 gx H locs hpz hP hD hS => ?_)
  obtain ⟨rfl, hvz⟩ := hpz
  obtain ⟨hP, hD⟩ := wz_ord (n := 7) (gs' := [WY.flatten, zo_W q az (nI 0) n k kn bk sz fd ln fm fw, zt_W q az to fo, zs_W q az sb gb, zb_W q az st sp wy se, zf_W q az ms ts, zq_W q az r1 r2]) [3, 0, 1, 2, 4, 5, 6] rfl (by decide) rfl hP hD
  refine lv_icmp_eq (tgt := 454) hx hb d_L_law_438 (by decide) (fun hc => ?_) (fun hc => ?_)
  · skip
    exact hk9 k sg tu od sa gl F WY (nI 0) kn bk sz fd ln fm fw to fo sb gb st sp wy se ms ts r1 r2 hcx' ⟨⟨hn1, hn, hk⟩, hzm, hzs, hzg, hzl, hkn, hfd⟩ _ _ _ hP hD hS (lv_sub hl [0, 1, 2, 3] rfl)
  · skip
    exact absurd (lw_rep hvx hvz) hc
