theorem d_X_run_0 : decode b_X_run 0 = .ok (.iload_n 1, 1) := by decide +kernel
theorem d_X_run_1 : decode b_X_run 1 = .ok (.invokestatic 75, 3) := by decide +kernel
theorem d_X_run_4 : decode b_X_run 4 = .ok (.ifCond .eq 7, 3) := by decide +kernel
theorem d_X_run_7 : decode b_X_run 7 = .ok (.iload_n 2, 1) := by decide +kernel
theorem d_X_run_8 : decode b_X_run 8 = .ok (.ifCond .ge 6, 3) := by decide +kernel
theorem d_X_run_11 : decode b_X_run 11 = .ok (.bipush (-2), 2) := by decide +kernel
theorem d_X_run_13 : decode b_X_run 13 = .ok (.ireturn, 1) := by decide +kernel
theorem d_X_run_14 : decode b_X_run 14 = .ok (.aload_n 0, 1) := by decide +kernel
theorem d_X_run_15 : decode b_X_run 15 = .ok (.invokevirtual 78, 3) := by decide +kernel
theorem d_X_run_18 : decode b_X_run 18 = .ok (.iload_n 1, 1) := by decide +kernel
theorem d_X_run_19 : decode b_X_run 19 = .ok (.iload_n 2, 1) := by decide +kernel
theorem d_X_run_20 : decode b_X_run 20 = .ok (.aload_n 0, 1) := by decide +kernel
theorem d_X_run_21 : decode b_X_run 21 = .ok (.getfield 38, 3) := by decide +kernel
theorem d_X_run_24 : decode b_X_run 24 = .ok (.invokevirtual 82, 3) := by decide +kernel
theorem d_X_run_27 : decode b_X_run 27 = .ok (.ireturn, 1) := by decide +kernel
theorem d_X_spread_0 : decode b_X_spread 0 = .ok (.iload_n 1, 1) := by decide +kernel
theorem d_X_spread_1 : decode b_X_spread 1 = .ok (.invokestatic 75, 3) := by decide +kernel
theorem d_X_spread_4 : decode b_X_spread 4 = .ok (.ifCond .eq 7, 3) := by decide +kernel
theorem d_X_spread_7 : decode b_X_spread 7 = .ok (.iload_n 2, 1) := by decide +kernel
theorem d_X_spread_8 : decode b_X_spread 8 = .ok (.ifCond .ge 5, 3) := by decide +kernel
theorem d_X_spread_11 : decode b_X_spread 11 = .ok (.iconst (-1), 1) := by decide +kernel
theorem d_X_spread_12 : decode b_X_spread 12 = .ok (.ireturn, 1) := by decide +kernel
theorem d_X_spread_13 : decode b_X_spread 13 = .ok (.aload_n 0, 1) := by decide +kernel
theorem d_X_spread_14 : decode b_X_spread 14 = .ok (.invokevirtual 78, 3) := by decide +kernel
theorem d_X_spread_17 : decode b_X_spread 17 = .ok (.iload_n 1, 1) := by decide +kernel
theorem d_X_spread_18 : decode b_X_spread 18 = .ok (.invokevirtual 96, 3) := by decide +kernel
theorem d_X_spread_21 : decode b_X_spread 21 = .ok (.astore_n 3, 1) := by decide +kernel
theorem d_X_spread_22 : decode b_X_spread 22 = .ok (.aload_n 3, 1) := by decide +kernel
theorem d_X_spread_23 : decode b_X_spread 23 = .ok (.iload_n 2, 1) := by decide +kernel
theorem d_X_spread_24 : decode b_X_spread 24 = .ok (.invokevirtual 100, 3) := by decide +kernel
theorem d_X_spread_27 : decode b_X_spread 27 = .ok (.aload_n 3, 1) := by decide +kernel
theorem d_X_spread_28 : decode b_X_spread 28 = .ok (.iload_n 2, 1) := by decide +kernel
theorem d_X_spread_29 : decode b_X_spread 29 = .ok (.invokevirtual 105, 3) := by decide +kernel
theorem d_X_spread_32 : decode b_X_spread 32 = .ok (.ireturn, 1) := by decide +kernel
theorem d_X_deepest_0 : decode b_X_deepest 0 = .ok (.iload_n 1, 1) := by decide +kernel
theorem d_X_deepest_1 : decode b_X_deepest 1 = .ok (.invokestatic 75, 3) := by decide +kernel
theorem d_X_deepest_4 : decode b_X_deepest 4 = .ok (.ifCond .ne 5, 3) := by decide +kernel
theorem d_X_deepest_7 : decode b_X_deepest 7 = .ok (.iconst (-1), 1) := by decide +kernel
theorem d_X_deepest_8 : decode b_X_deepest 8 = .ok (.ireturn, 1) := by decide +kernel
theorem d_X_deepest_9 : decode b_X_deepest 9 = .ok (.aload_n 0, 1) := by decide +kernel
theorem d_X_deepest_10 : decode b_X_deepest 10 = .ok (.invokevirtual 78, 3) := by decide +kernel
theorem d_X_deepest_13 : decode b_X_deepest 13 = .ok (.iload_n 1, 1) := by decide +kernel
theorem d_X_deepest_14 : decode b_X_deepest 14 = .ok (.invokevirtual 96, 3) := by decide +kernel
theorem d_X_deepest_17 : decode b_X_deepest 17 = .ok (.astore_n 2, 1) := by decide +kernel
theorem d_X_deepest_18 : decode b_X_deepest 18 = .ok (.aload_n 2, 1) := by decide +kernel
theorem d_X_deepest_19 : decode b_X_deepest 19 = .ok (.invokevirtual 108, 3) := by decide +kernel
theorem d_X_deepest_22 : decode b_X_deepest 22 = .ok (.aload_n 2, 1) := by decide +kernel
theorem d_X_deepest_23 : decode b_X_deepest 23 = .ok (.getfield 111, 3) := by decide +kernel
theorem d_X_deepest_26 : decode b_X_deepest 26 = .ok (.ireturn, 1) := by decide +kernel
theorem kw_5 : (Cond.selects "TwoEndSearch" ⟨"TwoEndSearch", "begunSearch", "()LTwoEndSearch$Search;"⟩ ⟨"TwoEndSearch", "begunSearch", "()LTwoEndSearch$Search;"⟩ : Cond) ∈ bigW := bigW_of 5 (by decide +kernel) (by decide +kernel)
theorem kw_295 : (Cond.methodLink "TwoEndSearch" 75 ⟨"TwoEndSearch", "isMeasure", "(I)Z"⟩ : Cond) ∈ bigW := bigW_of 295 (by decide +kernel) (by decide +kernel)
theorem kw_296 : (Cond.static ⟨"TwoEndSearch", "isMeasure", "(I)Z"⟩ : Cond) ∈ bigW := bigW_of 296 (by decide +kernel) (by decide +kernel)
theorem kw_297 : (Cond.code ⟨"TwoEndSearch", "isMeasure", "(I)Z"⟩ prog_1_method_16_code 1 (some .boolean) : Cond) ∈ bigW := bigW_of 297 (by decide +kernel) (by decide +kernel)
theorem kw_298 : (Cond.methodLink "TwoEndSearch" 78 ⟨"TwoEndSearch", "begunSearch", "()LTwoEndSearch$Search;"⟩ : Cond) ∈ bigW := bigW_of 298 (by decide +kernel) (by decide +kernel)
theorem kw_300 : (Cond.instanceMethod ⟨"TwoEndSearch", "begunSearch", "()LTwoEndSearch$Search;"⟩ : Cond) ∈ bigW := bigW_of 300 (by decide +kernel) (by decide +kernel)
theorem kw_301 : (Cond.code ⟨"TwoEndSearch", "begunSearch", "()LTwoEndSearch$Search;"⟩ prog_1_method_13_code 1 (some (.object "TwoEndSearch$Search")) : Cond) ∈ bigW := bigW_of 301 (by decide +kernel) (by decide +kernel)
theorem kw_327 : (Cond.methodLink "TwoEndSearch" 82 ⟨"TwoEndSearch$Search", "findRow", "(III)I"⟩ : Cond) ∈ bigW := bigW_of 327 (by decide +kernel) (by decide +kernel)
theorem kw_328 : (Cond.instanceMethod ⟨"TwoEndSearch$Search", "findRow", "(III)I"⟩ : Cond) ∈ bigW := bigW_of 328 (by decide +kernel) (by decide +kernel)
theorem kw_329 : (Cond.selects "TwoEndSearch$Search" ⟨"TwoEndSearch$Search", "findRow", "(III)I"⟩ ⟨"TwoEndSearch$Search", "findRow", "(III)I"⟩ : Cond) ∈ bigW := bigW_of 329 (by decide +kernel) (by decide +kernel)
theorem kw_330 : (Cond.code ⟨"TwoEndSearch$Search", "findRow", "(III)I"⟩ prog_5_method_5_code 5 (some .int) : Cond) ∈ bigW := bigW_of 330 (by decide +kernel) (by decide +kernel)
theorem kw_408 : (Cond.methodLink "TwoEndSearch" 96 ⟨"TwoEndSearch$Search", "ahead", "(I)LTwoEndSearch$Ball;"⟩ : Cond) ∈ bigW := bigW_of 408 (by decide +kernel) (by decide +kernel)
theorem kw_409 : (Cond.methodLink "TwoEndSearch" 100 ⟨"TwoEndSearch$Ball", "growTo", "(I)V"⟩ : Cond) ∈ bigW := bigW_of 409 (by decide +kernel) (by decide +kernel)
theorem kw_414 : (Cond.methodLink "TwoEndSearch" 105 ⟨"TwoEndSearch$Ball", "sizeOfLayer", "(I)I"⟩ : Cond) ∈ bigW := bigW_of 414 (by decide +kernel) (by decide +kernel)
theorem kw_415 : (Cond.instanceMethod ⟨"TwoEndSearch$Ball", "sizeOfLayer", "(I)I"⟩ : Cond) ∈ bigW := bigW_of 415 (by decide +kernel) (by decide +kernel)
theorem kw_416 : (Cond.selects "TwoEndSearch$Ball" ⟨"TwoEndSearch$Ball", "sizeOfLayer", "(I)I"⟩ ⟨"TwoEndSearch$Ball", "sizeOfLayer", "(I)I"⟩ : Cond) ∈ bigW := bigW_of 416 (by decide +kernel) (by decide +kernel)
theorem kw_417 : (Cond.code ⟨"TwoEndSearch$Ball", "sizeOfLayer", "(I)I"⟩ prog_2_method_7_code 2 (some .int) : Cond) ∈ bigW := bigW_of 417 (by decide +kernel) (by decide +kernel)
theorem kw_427 : (Cond.methodLink "TwoEndSearch" 108 ⟨"TwoEndSearch$Ball", "growWhole", "()V"⟩ : Cond) ∈ bigW := bigW_of 427 (by decide +kernel) (by decide +kernel)
theorem kw_428 : (Cond.instanceMethod ⟨"TwoEndSearch$Ball", "growWhole", "()V"⟩ : Cond) ∈ bigW := bigW_of 428 (by decide +kernel) (by decide +kernel)
theorem kw_429 : (Cond.selects "TwoEndSearch$Ball" ⟨"TwoEndSearch$Ball", "growWhole", "()V"⟩ ⟨"TwoEndSearch$Ball", "growWhole", "()V"⟩ : Cond) ∈ bigW := bigW_of 429 (by decide +kernel) (by decide +kernel)
theorem kw_430 : (Cond.code ⟨"TwoEndSearch$Ball", "growWhole", "()V"⟩ prog_2_method_6_code 1 none : Cond) ∈ bigW := bigW_of 430 (by decide +kernel) (by decide +kernel)
def po_X_run (q : wz_Q) (ax n k : Nat) (sg tu : Nat → Nat → Nat) (od : Nat → Nat) (sa gl : Nat) (F : cx_F) (x y : Int32) : Int32 → wz_G → Prop := fun v w => ((¬ (x = nI 0 ∨ x = nI 1) ∨ y < 0) ∧ v = -2 ∧ cx q ax n k sg tu od sa gl F w) ∨ ∃ mu mo, mu ≤ 1 ∧ x = nI mu ∧ mo < 2 ^ 31 ∧ y = nI mo ∧ ((v = -1 ∧ cx q ax n k sg tu od sa gl none w ∧ ∀ K9, pz_dist (bl_s n k 0 sg tu od (nI mu)) sa gl K9 → mo < K9) ∨ ∃ (len : Nat) (mv9 tm9 X9 : Nat → Nat), v = nI len ∧ cx q ax n k sg tu od sa gl (some (len, mv9, tm9, lN (pz_cnt gl (pz_ends (bl_s n k 0 sg tu od (nI mu)) sa len)))) w ∧ pz_dist (bl_s n k 0 sg tu od (nI mu)) sa gl len ∧ len ≤ mo ∧ pz_row k (bl_mt (nI mu) od) (bl_g n 0 sg tu) (pz_dist (bl_s n k 6 sg tu od (nI mu)) gl) sa len mv9 tm9 X9)
set_option maxHeartbeats 4000000 in
set_option maxRecDepth 100000 in
/-- a shortest row -/
theorem c_X_run (l : Launch) (D : va_G) (q : wz_Q) (ax n k : Nat) (sg tu : Nat → Nat → Nat) (od : Nat → Nat) (sa gl : Nat) (F : cx_F) (x y : Int32) (WW : wz_G) (hW : cx q ax n k sg tu od sa gl F WW) : wz_Mi l y_X_run ws_X_run ({ frames := 7, cells := 0, slots := 0, locals := 169 } : Room) D q ([.ref ax, .int x, .int y] : List Value) WW (po_X_run q ax n k sg tu od sa gl F x y) 0 0 := by
  obtain ⟨as9, ab, ac, ak, ag, am, b, rl, rt, fo, M, rw, bg, sx, ro, ln, wz, G, st, sl, L, f1, w1, e1, z1, y1, d1, m1, c1, f2, w2, e2, z2, y2, d2, m2, c2, f3, w3, e3, z3, y3, d3, m3, c3, rfl, ⟨hn1, hn, hk, hsa, hgl, hb0, hb30, hM⟩, hmv, hgr, ⟨hw1, hw2, hw3⟩, hbg, hF⟩ := hW
  have hfl := pz_fact_le hn
  intro sz9
  refine wz_enter (cc := b_X_run) (maxL := 3) (ret := (some .int)) (Qc := fun A => (va_Qi (po_X_run q ax n k sg tu od sa gl F x y) (wz_At D q A) A)) (by decide) (Nat.le_of_ble_eq_true rfl) ?_
  intro p e s m below meth c A ls C hP hD hS hl
  obtain ⟨hx, hb, hr, hml, hlocks, hown, hts, hN, hK, hA, hnm⟩ := C
  have hown : s.vm.findClass "TwoEndSearch" = some m.cls := hown
  have hl : lv_has ls 3 [(0, .ref ax), (1, .int x), (2, .int y)] := hl
  refine lv_iload_n hx hb d_X_run_0 rfl (lv_at hl 1 rfl) ?_
  have hQ := wz_split (n := 9) (gc := []) (gr := [xo_W q ax n (am 0) sa gl (as9 0), se_W q as9 n (am 0) (ag 0) (ab 0) (ac 0) (ak 0) (pz_fact n) rw bg sx ro ln wz, bl_W q ab (am 0) (ag 0) 0 (pz_fact n) f1 w1 e1 z1 y1 d1 m1 c1, bl_W q ac (am 0) (ag 0) 0 (pz_fact n) f2 w2 e2 z2 y2 d2 m2 c2, bl_W q ak (am 0) (ag 0) 6 (pz_fact n) f3 w3 e3 z3 y3 d3 m3 c3, gq_W q ag (am 0) (pz_fact n) (2 ^ b) (32 - b) rl st sl G.length, wz_rows 12 rl (fun i9 => .inl (q.1, pz_fact n, .inl (L i9))), mv_W q am n k rt fo, wz_rows 12 rt (fun i9 => .inl (q.1, 8, .inl (M i9)))]) [] [0, 1, 2, 3, 4, 5, 6, 7, 8] rfl (by decide) rfl rfl hP hD
  refine wz_calli (va_runS (As := [.int x]) (rest := []) ⟨hx, hb, hml, hown, hts⟩ (c_X_isMeasure l D q x _) (va_cwS 1 hts (wz_goodS kw_295 kw_296 kw_30 kw_297) rfl rfl rfl (by decide +kernel) ⟨Nat.le_of_ble_eq_true rfl, Nat.le_of_ble_eq_true rfl⟩) (wz_preS hN hK hQ wz_L_ok) rfl rfl hl.1 rfl (lv_room (Nat.le_of_ble_eq_true rfl)) d_X_run_1 ⟨Nat.le_of_ble_eq_true rfl, Nat.le_of_ble_eq_true rfl⟩) hQ hS hA (fun v_1 gx H locs hp0 hP hD hS => ?_)
  obtain ⟨rfl, hp0⟩ := hp0
  obtain ⟨hP, hD⟩ := wz_ord (n := 9) (gs' := [xo_W q ax n (am 0) sa gl (as9 0), se_W q as9 n (am 0) (ag 0) (ab 0) (ac 0) (ak 0) (pz_fact n) rw bg sx ro ln wz, bl_W q ab (am 0) (ag 0) 0 (pz_fact n) f1 w1 e1 z1 y1 d1 m1 c1, bl_W q ac (am 0) (ag 0) 0 (pz_fact n) f2 w2 e2 z2 y2 d2 m2 c2, bl_W q ak (am 0) (ag 0) 6 (pz_fact n) f3 w3 e3 z3 y3 d3 m3 c3, gq_W q ag (am 0) (pz_fact n) (2 ^ b) (32 - b) rl st sl G.length, wz_rows 12 rl (fun i9 => .inl (q.1, pz_fact n, .inl (L i9))), mv_W q am n k rt fo, wz_rows 12 rt (fun i9 => .inl (q.1, 8, .inl (M i9)))]) [0, 1, 2, 3, 4, 5, 6, 7, 8] rfl (by decide) rfl hP hD
  refine lv_if_eq (tgt := 11) hx hb d_X_run_4 (by decide) (fun hc => ?_) (fun hc => ?_)
  · skip
    refine lv_bipush (v := (-2)) hx hb d_X_run_11 (by decide) ?_
    exact wz_iret hx hb hr hlocks hK hP hD hS d_X_run_13 (Or.inl ⟨Or.inl (wz_bit_0 hp0 hc), rfl, (cx_in ⟨⟨hn1, hn, hk, hsa, hgl, hb0, hb30, hM⟩, hmv, hgr, ⟨hw1, hw2, hw3⟩, hbg, hF⟩)⟩)
  · skip
    obtain ⟨mu, hmu, rfl⟩ : ∃ mu, (mu = 0 ∨ mu = 1) ∧ x = nI mu := (wz_bit_1 hp0 hc).elim (fun q => ⟨0, Or.inl rfl, q⟩) (fun q => ⟨1, Or.inr rfl, q⟩)
    refine lv_iload_n hx hb d_X_run_7 rfl (lv_at hl 2 rfl) ?_
    refine lv_if_ge (tgt := 14) hx hb d_X_run_8 (by decide) (fun hc1 => ?_) (fun hc1 => ?_)
    · skip
      have hy0 : ¬ y < 0 := fun q => by
        have h1 := Int32.lt_iff_toInt_lt.mp q
        have h2 := Int32.le_iff_toInt_le.mp hc1
        omega
      obtain ⟨mo, hmo, rfl⟩ := nI_of hy0
      refine lv_aload_n hx hb d_X_run_14 rfl (lv_at hl 0 rfl) ?_
      have hQ := wz_split (n := 9) (gc := [xo_W q ax n (am 0) sa gl (as9 0), se_W q as9 n (am 0) (ag 0) (ab 0) (ac 0) (ak 0) (pz_fact n) rw bg sx ro ln wz, bl_W q ab (am 0) (ag 0) 0 (pz_fact n) f1 w1 e1 z1 y1 d1 m1 c1, bl_W q ac (am 0) (ag 0) 0 (pz_fact n) f2 w2 e2 z2 y2 d2 m2 c2, bl_W q ak (am 0) (ag 0) 6 (pz_fact n) f3 w3 e3 z3 y3 d3 m3 c3, gq_W q ag (am 0) (pz_fact n) (2 ^ b) (32 - b) rl st sl G.length, wz_rows 12 rl (fun i9 => .inl (q.1, pz_fact n, .inl (L i9))), mv_W q am n k rt fo, wz_rows 12 rt (fun i9 => .inl (q.1, 8, .inl (M i9)))]) (gr := []) [0, 1, 2, 3, 4, 5, 6, 7, 8] [] rfl (by decide) rfl rfl hP hD
      refine wz_callr (va_runV (As := []) (rest := []) ⟨hx, hb, hml, hown, hts⟩ (c_X_begunSearch l D q ax n k sg tu od sa gl F as9 ab ac ak ag am b rl rt fo M rw bg sx ro ln wz G st sl L f1 w1 e1 z1 y1 d1 m1 c1 f2 w2 e2 z2 y2 d2 m2 c2 f3 w3 e3 z3 y3 d3 m3 c3 ⟨⟨hn1, hn, hk, hsa, hgl, hb0, hb30, hM⟩, hmv, hgr, ⟨hw1, hw2, hw3⟩, hbg, hF⟩ _) (cwV 0 hts (wz_goodV kw_298 kw_300 kw_5 kw_30 kw_301) rfl rfl rfl (by decide +kernel) ⟨Nat.le_of_ble_eq_true rfl, Nat.le_of_ble_eq_true rfl⟩) (wz_preV (gi := 0) (k := 0) hN hK hQ wz_L_ok rfl rfl rfl) rfl rfl hl.1 rfl (lv_room (Nat.le_of_ble_eq_true rfl)) d_X_run_15 ⟨Nat.le_of_ble_eq_true rfl, Nat.le_of_ble_eq_true rfl⟩) hQ hS hA (fun v_15 gx H locs hp hP hD hS => ?_)
      obtain ⟨ro', G', st', sl', L', S1, f1', w1', e1', y1', d1', b1, S2, f2', w2', e2', y2', d2', b2, hv, rfl, hok, hro, ⟨hS1, hba1, hdy1⟩, ⟨hS2, hba2, hdy2⟩⟩ := hp
      have hGl := gq_len hok
      have hv : v_15 = as9 0 := hv
      subst hv
      obtain ⟨hP, hD⟩ := wz_ord (n := 9) (gs' := [xo_W q ax n (am 0) sa gl (as9 0), se_W q as9 n (am 0) (ag 0) (ab 0) (ac 0) (ak 0) (pz_fact n) rw (nI 1) sa ro' ln wz, bl_W q ab (am 0) (ag 0) 0 (pz_fact n) f1' w1' e1' S1.1.length y1' d1' (nI 0) (bl_b b1), bl_W q ac (am 0) (ag 0) 0 (pz_fact n) f2' w2' e2' S2.1.length y2' d2' (nI 1) (bl_b b2), bl_W q ak (am 0) (ag 0) 6 (pz_fact n) f3 w3 e3 z3 y3 d3 m3 c3, gq_W q ag (am 0) (pz_fact n) (2 ^ b) (32 - b) rl st' sl' G'.length, wz_rows 12 rl (fun i9 => .inl (q.1, pz_fact n, .inl (L' i9))), mv_W q am n k rt fo, wz_rows 12 rt (fun i9 => .inl (q.1, 8, .inl (M i9)))]) [0, 1, 2, 3, 4, 5, 6, 7, 8] rfl (by decide) rfl hP hD
      refine lv_iload_n hx hb d_X_run_18 rfl (lv_at hl 1 rfl) ?_
      refine lv_iload_n hx hb d_X_run_19 rfl (lv_at hl 2 rfl) ?_
      refine lv_aload_n hx hb d_X_run_20 rfl (lv_at hl 0 rfl) ?_
      refine wz_get (v := .int (nI gl)) (T := T_X) (N := 5) hx hb hts i_X hown hK hP 0 0 rfl rfl rfl 3 (by decide) (hts _ kw_213) rfl rfl d_X_run_21 ?_
      have hQ := wz_split (n := 9) (gc := [se_W q as9 n (am 0) (ag 0) (ab 0) (ac 0) (ak 0) (pz_fact n) rw (nI 1) sa ro' ln wz, bl_W q ab (am 0) (ag 0) 0 (pz_fact n) f1' w1' e1' S1.1.length y1' d1' (nI 0) (bl_b b1), bl_W q ac (am 0) (ag 0) 0 (pz_fact n) f2' w2' e2' S2.1.length y2' d2' (nI 1) (bl_b b2), bl_W q ak (am 0) (ag 0) 6 (pz_fact n) f3 w3 e3 z3 y3 d3 m3 c3, gq_W q ag (am 0) (pz_fact n) (2 ^ b) (32 - b) rl st' sl' G'.length, wz_rows 12 rl (fun i9 => .inl (q.1, pz_fact n, .inl (L' i9))), mv_W q am n k rt fo, wz_rows 12 rt (fun i9 => .inl (q.1, 8, .inl (M i9)))]) (gr := [xo_W q ax n (am 0) sa gl (as9 0)]) [1, 2, 3, 4, 5, 6, 7, 8] [0] rfl (by decide) rfl rfl hP hD
      refine wz_calli (va_runV (As := [.int (nI mu), .int (nI mo), .int (nI gl)]) (rest := []) ⟨hx, hb, hml, hown, hts⟩ (c_S_findRow l D q as9 ab ac ak ag am n b k rl rt fo M sg tu od rw (nI 1) ro' ln wz G' st' sl' L' S1 f1' w1' e1' y1' d1' b1 S2 f2' w2' e2' y2' d2' b2 f3 w3 e3 z3 y3 d3 m3 c3 sa gl mo mu hn hb0 hb30 hM hk hmv hok hro hS1 hba1 hdy1 hS2 hba2 hdy2 hw3 hgl hsa hmo hmu _) (cwV 3 hts (wz_goodV kw_327 kw_328 kw_329 kw_33 kw_330) rfl rfl rfl (by decide +kernel) ⟨Nat.le_of_ble_eq_true rfl, Nat.le_of_ble_eq_true rfl⟩) (wz_preV (gi := 0) (k := 0) hN hK hQ wz_L_ok rfl rfl rfl) rfl rfl hl.1 rfl (lv_room (Nat.le_of_ble_eq_true rfl)) d_X_run_24 ⟨Nat.le_of_ble_eq_true rfl, Nat.le_of_ble_eq_true rfl⟩) hQ hS hA (fun v_24 gx H locs hp hP hD hS => ?_)
      obtain ⟨G4, st4, sl4, L4, S14, f14, w14, e14, y14, d14, b14, S24, f24, w24, e24, y24, d24, b24, f34, w34, e34, z34, y34, d34, m34, c34, rw4, ln4, wz4, rfl, ⟨Nw, hNw⟩, hok4, ⟨hS14, hba14, hdy14⟩, ⟨hS24, hba24, hdy24⟩, hw34, hres⟩ := hp
      have hro4 : G4[ro']? = some sa := by rw [hNw, List.getElem?_append_left (List.getElem?_eq_some_iff.mp hro).1]; exact hro
      have hmu1 : mu ≤ 1 := by omega
      obtain ⟨hP, hD⟩ := wz_ord (n := 9) (gs' := [xo_W q ax n (am 0) sa gl (as9 0), se_W q as9 n (am 0) (ag 0) (ab 0) (ac 0) (ak 0) (pz_fact n) rw4 (nI 1) sa ro' ln4 wz4, bl_W q ab (am 0) (ag 0) 0 (pz_fact n) f14 w14 e14 S14.1.length y14 d14 (nI 0) (bl_b b14), bl_W q ac (am 0) (ag 0) 0 (pz_fact n) f24 w24 e24 S24.1.length y24 d24 (nI 1) (bl_b b24), bl_W q ak (am 0) (ag 0) 6 (pz_fact n) f34 w34 e34 z34 y34 d34 m34 c34, gq_W q ag (am 0) (pz_fact n) (2 ^ b) (32 - b) rl st4 sl4 G4.length, wz_rows 12 rl (fun i9 => .inl (q.1, pz_fact n, .inl (L4 i9))), mv_W q am n k rt fo, wz_rows 12 rt (fun i9 => .inl (q.1, 8, .inl (M i9)))]) [8, 0, 1, 2, 3, 4, 5, 6, 7] rfl (by decide) rfl hP hD
      rcases hres with ⟨rfl, rfl, rfl, hnone⟩ | ⟨len, mv9, tm9, X9, rfl, rfl, hdist, hlm, hlf, rfl, hrow, hrw⟩
      · skip
        exact wz_iret hx hb hr hlocks hK hP hD hS d_X_run_27 (Or.inr ⟨mu, mo, hmu1, rfl, hmo, rfl, Or.inl ⟨rfl, (cx_in ⟨⟨hn1, hn, hk, hsa, hgl, hb0, hb30, hM⟩, hmv, (gr_raw_of hn hok4), ⟨(bl_ok_raw hS14 (gq_len hok4) hok4.1), (bl_ok_raw hS24 (gq_len hok4) hok4.1), hw34⟩, Or.inr ⟨rfl, rfl, hok4, hro4, ⟨_, _, rfl, hS14, hba14, hdy14, rfl, rfl⟩, ⟨_, _, rfl, hS24, hba24, hdy24, rfl, rfl⟩⟩, (⟨rfl, rfl⟩ : cx_f none n (-1) 0 rw4)⟩), hnone⟩⟩)
      · skip
        have hrr : ∀ i, i < len → mv9 i < 6 ∧ tm9 i < 15 ∧ rw4 i = nI (mv9 i * 15 + tm9 i) := fun i hi => by
          have h1 := (hrow.2 i hi).1
          have h2 := bl_mt_le (me := nI mu) hmv h1.1
          have h3 := h1.2.2.1
          exact ⟨by have := h1.1; omega, by omega, hrw i hi⟩
        exact wz_iret hx hb hr hlocks hK hP hD hS d_X_run_27 (Or.inr ⟨mu, mo, hmu1, rfl, hmo, rfl, Or.inr ⟨len, mv9, tm9, X9, rfl, (cx_in ⟨⟨hn1, hn, hk, hsa, hgl, hb0, hb30, hM⟩, hmv, (gr_raw_of hn hok4), ⟨(bl_ok_raw hS14 (gq_len hok4) hok4.1), (bl_ok_raw hS24 (gq_len hok4) hok4.1), hw34⟩, Or.inr ⟨rfl, rfl, hok4, hro4, ⟨_, _, rfl, hS14, hba14, hdy14, rfl, rfl⟩, ⟨_, _, rfl, hS24, hba24, hdy24, rfl, rfl⟩⟩, (⟨rfl, hlf, rfl, hrr⟩ : cx_f (some (len, mv9, tm9, _)) n (nI len) _ rw4)⟩), hdist, hlm, hrow⟩⟩)
    · skip
      refine lv_bipush (v := (-2)) hx hb d_X_run_11 (by decide) ?_
      exact wz_iret hx hb hr hlocks hK hP hD hS d_X_run_13 (Or.inl ⟨Or.inr (by
      have h1 : ¬ (0 : Int32) ≤ y := hc1
      rw [Int32.le_iff_toInt_le] at h1
      rw [Int32.lt_iff_toInt_lt]
      omega), rfl, (cx_in ⟨⟨hn1, hn, hk, hsa, hgl, hb0, hb30, hM⟩, hmv, hgr, ⟨hw1, hw2, hw3⟩, hbg, hF⟩)⟩)
def po_X_spread (q : wz_Q) (ax n k : Nat) (sg tu : Nat → Nat → Nat) (od : Nat → Nat) (sa gl : Nat) (F : cx_F) (x y : Int32) : Int32 → wz_G → Prop := fun v w => ((¬ (x = nI 0 ∨ x = nI 1) ∨ y < 0) ∧ v = -1 ∧ cx q ax n k sg tu od sa gl F w) ∨ ∃ mu mo, mu ≤ 1 ∧ x = nI mu ∧ mo < 2 ^ 31 ∧ y = nI mo ∧ cx q ax n k sg tu od sa gl F w ∧ ∃ (S : pz_S) (ly dp : Nat) (cb : Bool) (c9 : Nat), pz_ball (bl_s n k 0 sg tu od (nI mu)) sa ly dp cb S ∧ (cb = true ∨ mo ≤ dp) ∧ v = nI c9 ∧ ((dp < mo ∧ c9 = 0) ∨ (mo ≤ dp ∧ ∃ m0 m1, bl_cw S mo m0 ∧ bl_cw S (mo + 1) m1 ∧ m0 ≤ m1 ∧ c9 = m1 - m0))
set_option maxHeartbeats 4000000 in
set_option maxRecDepth 100000 in
/-- how many lie just so far -/
theorem c_X_spread (l : Launch) (D : va_G) (q : wz_Q) (ax n k : Nat) (sg tu : Nat → Nat → Nat) (od : Nat → Nat) (sa gl : Nat) (F : cx_F) (x y : Int32) (WW : wz_G) (hW : cx q ax n k sg tu od sa gl F WW) : wz_Mi l y_X_spread ws_X_spread ({ frames := 6, cells := 0, slots := 0, locals := 142 } : Room) D q ([.ref ax, .int x, .int y] : List Value) WW (po_X_spread q ax n k sg tu od sa gl F x y) 0 0 := by
  obtain ⟨as9, ab, ac, ak, ag, am, b, rl, rt, fo, M, rw, bg, sx, ro, ln, wz, G, st, sl, L, f1, w1, e1, z1, y1, d1, m1, c1, f2, w2, e2, z2, y2, d2, m2, c2, f3, w3, e3, z3, y3, d3, m3, c3, rfl, ⟨hn1, hn, hk, hsa, hgl, hb0, hb30, hM⟩, hmv, hgr, ⟨hw1, hw2, hw3⟩, hbg, hF⟩ := hW
  have hfl := pz_fact_le hn
  intro sz9
  refine wz_enter (cc := b_X_spread) (maxL := 4) (ret := (some .int)) (Qc := fun A => (va_Qi (po_X_spread q ax n k sg tu od sa gl F x y) (wz_At D q A) A)) (by decide) (Nat.le_of_ble_eq_true rfl) ?_
  intro p e s m below meth c A ls C hP hD hS hl
  obtain ⟨hx, hb, hr, hml, hlocks, hown, hts, hN, hK, hA, hnm⟩ := C
  have hown : s.vm.findClass "TwoEndSearch" = some m.cls := hown
  have hl : lv_has ls 4 [(0, .ref ax), (1, .int x), (2, .int y)] := hl
  refine lv_iload_n hx hb d_X_spread_0 rfl (lv_at hl 1 rfl) ?_
  have hQ := wz_split (n := 9) (gc := []) (gr := [xo_W q ax n (am 0) sa gl (as9 0), se_W q as9 n (am 0) (ag 0) (ab 0) (ac 0) (ak 0) (pz_fact n) rw bg sx ro ln wz, bl_W q ab (am 0) (ag 0) 0 (pz_fact n) f1 w1 e1 z1 y1 d1 m1 c1, bl_W q ac (am 0) (ag 0) 0 (pz_fact n) f2 w2 e2 z2 y2 d2 m2 c2, bl_W q ak (am 0) (ag 0) 6 (pz_fact n) f3 w3 e3 z3 y3 d3 m3 c3, gq_W q ag (am 0) (pz_fact n) (2 ^ b) (32 - b) rl st sl G.length, wz_rows 12 rl (fun i9 => .inl (q.1, pz_fact n, .inl (L i9))), mv_W q am n k rt fo, wz_rows 12 rt (fun i9 => .inl (q.1, 8, .inl (M i9)))]) [] [0, 1, 2, 3, 4, 5, 6, 7, 8] rfl (by decide) rfl rfl hP hD
  refine wz_calli (va_runS (As := [.int x]) (rest := []) ⟨hx, hb, hml, hown, hts⟩ (c_X_isMeasure l D q x _) (va_cwS 1 hts (wz_goodS kw_295 kw_296 kw_30 kw_297) rfl rfl rfl (by decide +kernel) ⟨Nat.le_of_ble_eq_true rfl, Nat.le_of_ble_eq_true rfl⟩) (wz_preS hN hK hQ wz_L_ok) rfl rfl hl.1 rfl (lv_room (Nat.le_of_ble_eq_true rfl)) d_X_spread_1 ⟨Nat.le_of_ble_eq_true rfl, Nat.le_of_ble_eq_true rfl⟩) hQ hS hA (fun v_1 gx H locs hp0 hP hD hS => ?_)
  obtain ⟨rfl, hp0⟩ := hp0
  obtain ⟨hP, hD⟩ := wz_ord (n := 9) (gs' := [xo_W q ax n (am 0) sa gl (as9 0), se_W q as9 n (am 0) (ag 0) (ab 0) (ac 0) (ak 0) (pz_fact n) rw bg sx ro ln wz, bl_W q ab (am 0) (ag 0) 0 (pz_fact n) f1 w1 e1 z1 y1 d1 m1 c1, bl_W q ac (am 0) (ag 0) 0 (pz_fact n) f2 w2 e2 z2 y2 d2 m2 c2, bl_W q ak (am 0) (ag 0) 6 (pz_fact n) f3 w3 e3 z3 y3 d3 m3 c3, gq_W q ag (am 0) (pz_fact n) (2 ^ b) (32 - b) rl st sl G.length, wz_rows 12 rl (fun i9 => .inl (q.1, pz_fact n, .inl (L i9))), mv_W q am n k rt fo, wz_rows 12 rt (fun i9 => .inl (q.1, 8, .inl (M i9)))]) [0, 1, 2, 3, 4, 5, 6, 7, 8] rfl (by decide) rfl hP hD
  refine lv_if_eq (tgt := 11) hx hb d_X_spread_4 (by decide) (fun hc => ?_) (fun hc => ?_)
  · skip
    refine lv_iconst (v := (-1)) hx hb d_X_spread_11 (by decide) ?_
    exact wz_iret hx hb hr hlocks hK hP hD hS d_X_spread_12 (Or.inl ⟨Or.inl (wz_bit_0 hp0 hc), rfl, (cx_in ⟨⟨hn1, hn, hk, hsa, hgl, hb0, hb30, hM⟩, hmv, hgr, ⟨hw1, hw2, hw3⟩, hbg, hF⟩)⟩)
  · skip
    obtain ⟨mu, hmu, rfl⟩ : ∃ mu, (mu = 0 ∨ mu = 1) ∧ x = nI mu := (wz_bit_1 hp0 hc).elim (fun q => ⟨0, Or.inl rfl, q⟩) (fun q => ⟨1, Or.inr rfl, q⟩)
    refine lv_iload_n hx hb d_X_spread_7 rfl (lv_at hl 2 rfl) ?_
    refine lv_if_ge (tgt := 13) hx hb d_X_spread_8 (by decide) (fun hc1 => ?_) (fun hc1 => ?_)
    · skip
      have hy0 : ¬ y < 0 := fun q => by
        have h1 := Int32.lt_iff_toInt_lt.mp q
        have h2 := Int32.le_iff_toInt_le.mp hc1
        omega
      obtain ⟨mo, hmo, rfl⟩ := nI_of hy0
      refine lv_aload_n hx hb d_X_spread_13 rfl (lv_at hl 0 rfl) ?_
      have hQ := wz_split (n := 9) (gc := [xo_W q ax n (am 0) sa gl (as9 0), se_W q as9 n (am 0) (ag 0) (ab 0) (ac 0) (ak 0) (pz_fact n) rw bg sx ro ln wz, bl_W q ab (am 0) (ag 0) 0 (pz_fact n) f1 w1 e1 z1 y1 d1 m1 c1, bl_W q ac (am 0) (ag 0) 0 (pz_fact n) f2 w2 e2 z2 y2 d2 m2 c2, bl_W q ak (am 0) (ag 0) 6 (pz_fact n) f3 w3 e3 z3 y3 d3 m3 c3, gq_W q ag (am 0) (pz_fact n) (2 ^ b) (32 - b) rl st sl G.length, wz_rows 12 rl (fun i9 => .inl (q.1, pz_fact n, .inl (L i9))), mv_W q am n k rt fo, wz_rows 12 rt (fun i9 => .inl (q.1, 8, .inl (M i9)))]) (gr := []) [0, 1, 2, 3, 4, 5, 6, 7, 8] [] rfl (by decide) rfl rfl hP hD
      refine wz_callr (va_runV (As := []) (rest := []) ⟨hx, hb, hml, hown, hts⟩ (c_X_begunSearch l D q ax n k sg tu od sa gl F as9 ab ac ak ag am b rl rt fo M rw bg sx ro ln wz G st sl L f1 w1 e1 z1 y1 d1 m1 c1 f2 w2 e2 z2 y2 d2 m2 c2 f3 w3 e3 z3 y3 d3 m3 c3 ⟨⟨hn1, hn, hk, hsa, hgl, hb0, hb30, hM⟩, hmv, hgr, ⟨hw1, hw2, hw3⟩, hbg, hF⟩ _) (cwV 0 hts (wz_goodV kw_298 kw_300 kw_5 kw_30 kw_301) rfl rfl rfl (by decide +kernel) ⟨Nat.le_of_ble_eq_true rfl, Nat.le_of_ble_eq_true rfl⟩) (wz_preV (gi := 0) (k := 0) hN hK hQ wz_L_ok rfl rfl rfl) rfl rfl hl.1 rfl (lv_room (Nat.le_of_ble_eq_true rfl)) d_X_spread_14 ⟨Nat.le_of_ble_eq_true rfl, Nat.le_of_ble_eq_true rfl⟩) hQ hS hA (fun v_14 gx H locs hp hP hD hS => ?_)
      obtain ⟨ro', G', st', sl', L', S1, f1', w1', e1', y1', d1', b1, S2, f2', w2', e2', y2', d2', b2, hv, rfl, hok, hro, ⟨hS1, hba1, hdy1⟩, ⟨hS2, hba2, hdy2⟩⟩ := hp
      have hGl := gq_len hok
      have hv : v_14 = as9 0 := hv
      subst hv
      obtain ⟨hP, hD⟩ := wz_ord (n := 9) (gs' := [xo_W q ax n (am 0) sa gl (as9 0), se_W q as9 n (am 0) (ag 0) (ab 0) (ac 0) (ak 0) (pz_fact n) rw (nI 1) sa ro' ln wz, bl_W q ab (am 0) (ag 0) 0 (pz_fact n) f1' w1' e1' S1.1.length y1' d1' (nI 0) (bl_b b1), bl_W q ac (am 0) (ag 0) 0 (pz_fact n) f2' w2' e2' S2.1.length y2' d2' (nI 1) (bl_b b2), bl_W q ak (am 0) (ag 0) 6 (pz_fact n) f3 w3 e3 z3 y3 d3 m3 c3, gq_W q ag (am 0) (pz_fact n) (2 ^ b) (32 - b) rl st' sl' G'.length, wz_rows 12 rl (fun i9 => .inl (q.1, pz_fact n, .inl (L' i9))), mv_W q am n k rt fo, wz_rows 12 rt (fun i9 => .inl (q.1, 8, .inl (M i9)))]) [0, 1, 2, 3, 4, 5, 6, 7, 8] rfl (by decide) rfl hP hD
      refine lv_iload_n hx hb d_X_spread_17 rfl (lv_at hl 1 rfl) ?_
      have hQ := wz_split (n := 9) (gc := [se_W q as9 n (am 0) (ag 0) (ab 0) (ac 0) (ak 0) (pz_fact n) rw (nI 1) sa ro' ln wz]) (gr := [xo_W q ax n (am 0) sa gl (as9 0), bl_W q ab (am 0) (ag 0) 0 (pz_fact n) f1' w1' e1' S1.1.length y1' d1' (nI 0) (bl_b b1), bl_W q ac (am 0) (ag 0) 0 (pz_fact n) f2' w2' e2' S2.1.length y2' d2' (nI 1) (bl_b b2), bl_W q ak (am 0) (ag 0) 6 (pz_fact n) f3 w3 e3 z3 y3 d3 m3 c3, gq_W q ag (am 0) (pz_fact n) (2 ^ b) (32 - b) rl st' sl' G'.length, wz_rows 12 rl (fun i9 => .inl (q.1, pz_fact n, .inl (L' i9))), mv_W q am n k rt fo, wz_rows 12 rt (fun i9 => .inl (q.1, 8, .inl (M i9)))]) [1] [0, 2, 3, 4, 5, 6, 7, 8] rfl (by decide) rfl rfl hP hD
      refine wz_callr (va_runV (As := [.int (nI mu)]) (rest := []) ⟨hx, hb, hml, hown, hts⟩ (c_S_ahead l D q as9 n (am 0) (ag 0) (ab 0) (ac 0) (ak 0) (pz_fact n) rw (nI 1) sa ro' ln wz (nI mu) _) (cwV 1 hts (wz_goodV kw_408 kw_336 kw_337 kw_33 kw_338) rfl rfl rfl (by decide +kernel) ⟨Nat.le_of_ble_eq_true rfl, Nat.le_of_ble_eq_true rfl⟩) (wz_preV (gi := 0) (k := 0) hN hK hQ wz_L_ok rfl rfl rfl) rfl rfl hl.1 rfl (lv_room (Nat.le_of_ble_eq_true rfl)) d_X_spread_18 ⟨Nat.le_of_ble_eq_true rfl, Nat.le_of_ble_eq_true rfl⟩) hQ hS hA (fun v_18 gx H locs hp hP hD hS => ?_)
      obtain ⟨rfl, hv⟩ := hp
      have hv : v_18 = if nI mu = 0 then ab 0 else ac 0 := hv
      rcases hmu with rfl | rfl
      · skip
        have hv : v_18 = ab 0 := hv
        subst hv
        obtain ⟨hP, hD⟩ := wz_ord (n := 9) (gs' := [xo_W q ax n (am 0) sa gl (as9 0), se_W q as9 n (am 0) (ag 0) (ab 0) (ac 0) (ak 0) (pz_fact n) rw (nI 1) sa ro' ln wz, bl_W q ab (am 0) (ag 0) 0 (pz_fact n) f1' w1' e1' S1.1.length y1' d1' (nI 0) (bl_b b1), bl_W q ac (am 0) (ag 0) 0 (pz_fact n) f2' w2' e2' S2.1.length y2' d2' (nI 1) (bl_b b2), bl_W q ak (am 0) (ag 0) 6 (pz_fact n) f3 w3 e3 z3 y3 d3 m3 c3, gq_W q ag (am 0) (pz_fact n) (2 ^ b) (32 - b) rl st' sl' G'.length, wz_rows 12 rl (fun i9 => .inl (q.1, pz_fact n, .inl (L' i9))), mv_W q am n k rt fo, wz_rows 12 rt (fun i9 => .inl (q.1, 8, .inl (M i9)))]) [1, 0, 2, 3, 4, 5, 6, 7, 8] rfl (by decide) rfl hP hD
        refine lv_astore_n (lv' := [(3, .ref (ab 0)), (0, .ref ax), (1, .int (nI 0)), (2, .int (nI mo))]) hx hb d_X_spread_21 rfl hl (by decide) rfl (fun ls hl => ?_)
        refine lv_aload_n hx hb d_X_spread_22 rfl (lv_at hl 0 rfl) ?_
        refine lv_iload_n hx hb d_X_spread_23 rfl (lv_at hl 3 rfl) ?_
        have hQ := wz_split (n := 9) (gc := [bl_W q ab (am 0) (ag 0) 0 (pz_fact n) f1' w1' e1' S1.1.length y1' d1' (nI 0) (bl_b b1), gq_W q ag (am 0) (pz_fact n) (2 ^ b) (32 - b) rl st' sl' G'.length, wz_rows 12 rl (fun i9 => .inl (q.1, pz_fact n, .inl (L' i9))), mv_W q am n k rt fo, wz_rows 12 rt (fun i9 => .inl (q.1, 8, .inl (M i9)))]) (gr := [xo_W q ax n (am 0) sa gl (as9 0), se_W q as9 n (am 0) (ag 0) (ab 0) (ac 0) (ak 0) (pz_fact n) rw (nI 1) sa ro' ln wz, bl_W q ac (am 0) (ag 0) 0 (pz_fact n) f2' w2' e2' S2.1.length y2' d2' (nI 1) (bl_b b2), bl_W q ak (am 0) (ag 0) 6 (pz_fact n) f3 w3 e3 z3 y3 d3 m3 c3]) [2, 5, 6, 7, 8] [0, 1, 3, 4] rfl (by decide) rfl rfl hP hD
        refine wz_callv (va_runV (As := [.int (nI mo)]) (rest := []) ⟨hx, hb, hml, hown, hts⟩ (c_B_growTo l D q ab ag am n b k 0 rl rt fo M sg tu od sa G' st' sl' L' S1 f1' w1' e1' y1' d1' (nI 0) (bl_b b1) sa b1 mo hn hb0 hb30 hM hk (Or.inl rfl) hmv hok hS1 hba1 rfl hdy1 hmo _) (cwV 1 hts (wz_goodV kw_409 kw_410 kw_411 kw_35 kw_412) rfl rfl rfl (by decide +kernel) ⟨Nat.le_of_ble_eq_true rfl, Nat.le_of_ble_eq_true rfl⟩) (wz_preV (gi := 0) (k := 0) hN hK hQ wz_L_ok rfl rfl rfl) rfl rfl hl.1 rfl (lv_room (Nat.le_of_ble_eq_true rfl)) d_X_spread_24 ⟨Nat.le_of_ble_eq_true rfl, Nat.le_of_ble_eq_true rfl⟩) hQ hS hA (fun gx H locs hp hP hD hS => ?_)
        obtain ⟨G4, st4, sl4, L4, S4, f4, w4, e4, y4, d4, b4, rfl, hba4, hdy4, hres, ⟨Nw, hNw⟩, hok4, hS4⟩ := hp
        have hG4 := gq_len hok4
        have hSB := bl_more hS2 ⟨Nw, hNw⟩ hok4.1 hG4
        have hro4 : G4[ro']? = some sa := by rw [hNw, List.getElem?_append_left (List.getElem?_eq_some_iff.mp hro).1]; exact hro
        have hS4l := bl_len hS4
        have hly4 := hba4.2.1
        have hd30 : d4 < 2 ^ 30 := by omega
        obtain ⟨hP, hD⟩ := wz_ord (n := 9) (gs' := [xo_W q ax n (am 0) sa gl (as9 0), se_W q as9 n (am 0) (ag 0) (ab 0) (ac 0) (ak 0) (pz_fact n) rw (nI 1) sa ro' ln wz, bl_W q ab (am 0) (ag 0) 0 (pz_fact n) f4 w4 e4 S4.1.length y4 d4 (nI 0) (bl_b b4), bl_W q ac (am 0) (ag 0) 0 (pz_fact n) f2' w2' e2' S2.1.length y2' d2' (nI 1) (bl_b b2), bl_W q ak (am 0) (ag 0) 6 (pz_fact n) f3 w3 e3 z3 y3 d3 m3 c3, gq_W q ag (am 0) (pz_fact n) (2 ^ b) (32 - b) rl st4 sl4 G4.length, wz_rows 12 rl (fun i9 => .inl (q.1, pz_fact n, .inl (L4 i9))), mv_W q am n k rt fo, wz_rows 12 rt (fun i9 => .inl (q.1, 8, .inl (M i9)))]) [5, 6, 0, 7, 8, 1, 2, 3, 4] rfl (by decide) rfl hP hD
        refine lv_aload_n hx hb d_X_spread_27 rfl (lv_at hl 0 rfl) ?_
        refine lv_iload_n hx hb d_X_spread_28 rfl (lv_at hl 3 rfl) ?_
        have hQ := wz_split (n := 9) (gc := [bl_W q ab (am 0) (ag 0) 0 (pz_fact n) f4 w4 e4 S4.1.length y4 d4 (nI 0) (bl_b b4)]) (gr := [xo_W q ax n (am 0) sa gl (as9 0), se_W q as9 n (am 0) (ag 0) (ab 0) (ac 0) (ak 0) (pz_fact n) rw (nI 1) sa ro' ln wz, bl_W q ac (am 0) (ag 0) 0 (pz_fact n) f2' w2' e2' S2.1.length y2' d2' (nI 1) (bl_b b2), bl_W q ak (am 0) (ag 0) 6 (pz_fact n) f3 w3 e3 z3 y3 d3 m3 c3, gq_W q ag (am 0) (pz_fact n) (2 ^ b) (32 - b) rl st4 sl4 G4.length, wz_rows 12 rl (fun i9 => .inl (q.1, pz_fact n, .inl (L4 i9))), mv_W q am n k rt fo, wz_rows 12 rt (fun i9 => .inl (q.1, 8, .inl (M i9)))]) [2] [0, 1, 3, 4, 5, 6, 7, 8] rfl (by decide) rfl rfl hP hD
        refine wz_calli (va_runV (As := [.int (nI mo)]) (rest := []) ⟨hx, hb, hml, hown, hts⟩ (c_B_sizeOfLayer l D q ab (am 0) (ag 0) 0 (pz_fact n) f4 w4 e4 y4 d4 (nI 0) (bl_b b4) G4 S4 mo hfl hG4 hS4 (pz_ball_lt hba4 hd30) hmo hd30 (fun d => bl_cw_ex hba4.1 d) _) (cwV 1 hts (wz_goodV kw_414 kw_415 kw_416 kw_35 kw_417) rfl rfl rfl (by decide +kernel) ⟨Nat.le_of_ble_eq_true rfl, Nat.le_of_ble_eq_true rfl⟩) (wz_preV (gi := 0) (k := 0) hN hK hQ wz_L_ok rfl rfl rfl) rfl rfl hl.1 rfl (lv_room (Nat.le_of_ble_eq_true rfl)) d_X_spread_29 ⟨Nat.le_of_ble_eq_true rfl, Nat.le_of_ble_eq_true rfl⟩) hQ hS hA (fun v_29 gx H locs hp hP hD hS => ?_)
        obtain ⟨rfl, c9, rfl, hc9⟩ := hp
        obtain ⟨hP, hD⟩ := wz_ord (n := 9) (gs' := [xo_W q ax n (am 0) sa gl (as9 0), se_W q as9 n (am 0) (ag 0) (ab 0) (ac 0) (ak 0) (pz_fact n) rw (nI 1) sa ro' ln wz, bl_W q ab (am 0) (ag 0) 0 (pz_fact n) f4 w4 e4 S4.1.length y4 d4 (nI 0) (bl_b b4), bl_W q ac (am 0) (ag 0) 0 (pz_fact n) f2' w2' e2' S2.1.length y2' d2' (nI 1) (bl_b b2), bl_W q ak (am 0) (ag 0) 6 (pz_fact n) f3 w3 e3 z3 y3 d3 m3 c3, gq_W q ag (am 0) (pz_fact n) (2 ^ b) (32 - b) rl st4 sl4 G4.length, wz_rows 12 rl (fun i9 => .inl (q.1, pz_fact n, .inl (L4 i9))), mv_W q am n k rt fo, wz_rows 12 rt (fun i9 => .inl (q.1, 8, .inl (M i9)))]) [1, 2, 0, 3, 4, 5, 6, 7, 8] rfl (by decide) rfl hP hD
        exact wz_iret hx hb hr hlocks hK hP hD hS d_X_spread_32 (Or.inr ⟨0, mo, by omega, rfl, hmo, rfl, (cx_in ⟨⟨hn1, hn, hk, hsa, hgl, hb0, hb30, hM⟩, hmv, (gr_raw_of hn hok4), ⟨(bl_ok_raw hS4 (gq_len hok4) hok4.1), (bl_ok_raw hSB (gq_len hok4) hok4.1), hw3⟩, Or.inr ⟨rfl, rfl, hok4, hro4, ⟨_, _, rfl, hS4, hba4, hdy4, rfl, rfl⟩, ⟨_, _, rfl, hSB, hba2, hdy2, rfl, rfl⟩⟩, hF⟩), S4, y4, d4, b4, c9, hba4, hres, rfl, hc9⟩)
      · skip
        have hv : v_18 = ac 0 := hv
        subst hv
        obtain ⟨hP, hD⟩ := wz_ord (n := 9) (gs' := [xo_W q ax n (am 0) sa gl (as9 0), se_W q as9 n (am 0) (ag 0) (ab 0) (ac 0) (ak 0) (pz_fact n) rw (nI 1) sa ro' ln wz, bl_W q ab (am 0) (ag 0) 0 (pz_fact n) f1' w1' e1' S1.1.length y1' d1' (nI 0) (bl_b b1), bl_W q ac (am 0) (ag 0) 0 (pz_fact n) f2' w2' e2' S2.1.length y2' d2' (nI 1) (bl_b b2), bl_W q ak (am 0) (ag 0) 6 (pz_fact n) f3 w3 e3 z3 y3 d3 m3 c3, gq_W q ag (am 0) (pz_fact n) (2 ^ b) (32 - b) rl st' sl' G'.length, wz_rows 12 rl (fun i9 => .inl (q.1, pz_fact n, .inl (L' i9))), mv_W q am n k rt fo, wz_rows 12 rt (fun i9 => .inl (q.1, 8, .inl (M i9)))]) [1, 0, 2, 3, 4, 5, 6, 7, 8] rfl (by decide) rfl hP hD
        refine lv_astore_n (lv' := [(3, .ref (ac 0)), (0, .ref ax), (1, .int (nI 1)), (2, .int (nI mo))]) hx hb d_X_spread_21 rfl hl (by decide) rfl (fun ls hl => ?_)
        refine lv_aload_n hx hb d_X_spread_22 rfl (lv_at hl 0 rfl) ?_
        refine lv_iload_n hx hb d_X_spread_23 rfl (lv_at hl 3 rfl) ?_
        have hQ := wz_split (n := 9) (gc := [bl_W q ac (am 0) (ag 0) 0 (pz_fact n) f2' w2' e2' S2.1.length y2' d2' (nI 1) (bl_b b2), gq_W q ag (am 0) (pz_fact n) (2 ^ b) (32 - b) rl st' sl' G'.length, wz_rows 12 rl (fun i9 => .inl (q.1, pz_fact n, .inl (L' i9))), mv_W q am n k rt fo, wz_rows 12 rt (fun i9 => .inl (q.1, 8, .inl (M i9)))]) (gr := [xo_W q ax n (am 0) sa gl (as9 0), se_W q as9 n (am 0) (ag 0) (ab 0) (ac 0) (ak 0) (pz_fact n) rw (nI 1) sa ro' ln wz, bl_W q ab (am 0) (ag 0) 0 (pz_fact n) f1' w1' e1' S1.1.length y1' d1' (nI 0) (bl_b b1), bl_W q ak (am 0) (ag 0) 6 (pz_fact n) f3 w3 e3 z3 y3 d3 m3 c3]) [3, 5, 6, 7, 8] [0, 1, 2, 4] rfl (by decide) rfl rfl hP hD
        refine wz_callv (va_runV (As := [.int (nI mo)]) (rest := []) ⟨hx, hb, hml, hown, hts⟩ (c_B_growTo l D q ac ag am n b k 0 rl rt fo M sg tu od sa G' st' sl' L' S2 f2' w2' e2' y2' d2' (nI 1) (bl_b b2) sa b2 mo hn hb0 hb30 hM hk (Or.inl rfl) hmv hok hS2 hba2 rfl hdy2 hmo _) (cwV 1 hts (wz_goodV kw_409 kw_410 kw_411 kw_35 kw_412) rfl rfl rfl (by decide +kernel) ⟨Nat.le_of_ble_eq_true rfl, Nat.le_of_ble_eq_true rfl⟩) (wz_preV (gi := 0) (k := 0) hN hK hQ wz_L_ok rfl rfl rfl) rfl rfl hl.1 rfl (lv_room (Nat.le_of_ble_eq_true rfl)) d_X_spread_24 ⟨Nat.le_of_ble_eq_true rfl, Nat.le_of_ble_eq_true rfl⟩) hQ hS hA (fun gx H locs hp hP hD hS => ?_)
        obtain ⟨G4, st4, sl4, L4, S4, f4, w4, e4, y4, d4, b4, rfl, hba4, hdy4, hres, ⟨Nw, hNw⟩, hok4, hS4⟩ := hp
        have hG4 := gq_len hok4
        have hSB := bl_more hS1 ⟨Nw, hNw⟩ hok4.1 hG4
        have hro4 : G4[ro']? = some sa := by rw [hNw, List.getElem?_append_left (List.getElem?_eq_some_iff.mp hro).1]; exact hro
        have hS4l := bl_len hS4
        have hly4 := hba4.2.1
        have hd30 : d4 < 2 ^ 30 := by omega
        obtain ⟨hP, hD⟩ := wz_ord (n := 9) (gs' := [xo_W q ax n (am 0) sa gl (as9 0), se_W q as9 n (am 0) (ag 0) (ab 0) (ac 0) (ak 0) (pz_fact n) rw (nI 1) sa ro' ln wz, bl_W q ab (am 0) (ag 0) 0 (pz_fact n) f1' w1' e1' S1.1.length y1' d1' (nI 0) (bl_b b1), bl_W q ac (am 0) (ag 0) 0 (pz_fact n) f4 w4 e4 S4.1.length y4 d4 (nI 1) (bl_b b4), bl_W q ak (am 0) (ag 0) 6 (pz_fact n) f3 w3 e3 z3 y3 d3 m3 c3, gq_W q ag (am 0) (pz_fact n) (2 ^ b) (32 - b) rl st4 sl4 G4.length, wz_rows 12 rl (fun i9 => .inl (q.1, pz_fact n, .inl (L4 i9))), mv_W q am n k rt fo, wz_rows 12 rt (fun i9 => .inl (q.1, 8, .inl (M i9)))]) [5, 6, 7, 0, 8, 1, 2, 3, 4] rfl (by decide) rfl hP hD
        refine lv_aload_n hx hb d_X_spread_27 rfl (lv_at hl 0 rfl) ?_
        refine lv_iload_n hx hb d_X_spread_28 rfl (lv_at hl 3 rfl) ?_
        have hQ := wz_split (n := 9) (gc := [bl_W q ac (am 0) (ag 0) 0 (pz_fact n) f4 w4 e4 S4.1.length y4 d4 (nI 1) (bl_b b4)]) (gr := [xo_W q ax n (am 0) sa gl (as9 0), se_W q as9 n (am 0) (ag 0) (ab 0) (ac 0) (ak 0) (pz_fact n) rw (nI 1) sa ro' ln wz, bl_W q ab (am 0) (ag 0) 0 (pz_fact n) f1' w1' e1' S1.1.length y1' d1' (nI 0) (bl_b b1), bl_W q ak (am 0) (ag 0) 6 (pz_fact n) f3 w3 e3 z3 y3 d3 m3 c3, gq_W q ag (am 0) (pz_fact n) (2 ^ b) (32 - b) rl st4 sl4 G4.length, wz_rows 12 rl (fun i9 => .inl (q.1, pz_fact n, .inl (L4 i9))), mv_W q am n k rt fo, wz_rows 12 rt (fun i9 => .inl (q.1, 8, .inl (M i9)))]) [3] [0, 1, 2, 4, 5, 6, 7, 8] rfl (by decide) rfl rfl hP hD
        refine wz_calli (va_runV (As := [.int (nI mo)]) (rest := []) ⟨hx, hb, hml, hown, hts⟩ (c_B_sizeOfLayer l D q ac (am 0) (ag 0) 0 (pz_fact n) f4 w4 e4 y4 d4 (nI 1) (bl_b b4) G4 S4 mo hfl hG4 hS4 (pz_ball_lt hba4 hd30) hmo hd30 (fun d => bl_cw_ex hba4.1 d) _) (cwV 1 hts (wz_goodV kw_414 kw_415 kw_416 kw_35 kw_417) rfl rfl rfl (by decide +kernel) ⟨Nat.le_of_ble_eq_true rfl, Nat.le_of_ble_eq_true rfl⟩) (wz_preV (gi := 0) (k := 0) hN hK hQ wz_L_ok rfl rfl rfl) rfl rfl hl.1 rfl (lv_room (Nat.le_of_ble_eq_true rfl)) d_X_spread_29 ⟨Nat.le_of_ble_eq_true rfl, Nat.le_of_ble_eq_true rfl⟩) hQ hS hA (fun v_29 gx H locs hp hP hD hS => ?_)
        obtain ⟨rfl, c9, rfl, hc9⟩ := hp
        obtain ⟨hP, hD⟩ := wz_ord (n := 9) (gs' := [xo_W q ax n (am 0) sa gl (as9 0), se_W q as9 n (am 0) (ag 0) (ab 0) (ac 0) (ak 0) (pz_fact n) rw (nI 1) sa ro' ln wz, bl_W q ab (am 0) (ag 0) 0 (pz_fact n) f1' w1' e1' S1.1.length y1' d1' (nI 0) (bl_b b1), bl_W q ac (am 0) (ag 0) 0 (pz_fact n) f4 w4 e4 S4.1.length y4 d4 (nI 1) (bl_b b4), bl_W q ak (am 0) (ag 0) 6 (pz_fact n) f3 w3 e3 z3 y3 d3 m3 c3, gq_W q ag (am 0) (pz_fact n) (2 ^ b) (32 - b) rl st4 sl4 G4.length, wz_rows 12 rl (fun i9 => .inl (q.1, pz_fact n, .inl (L4 i9))), mv_W q am n k rt fo, wz_rows 12 rt (fun i9 => .inl (q.1, 8, .inl (M i9)))]) [1, 2, 3, 0, 4, 5, 6, 7, 8] rfl (by decide) rfl hP hD
        exact wz_iret hx hb hr hlocks hK hP hD hS d_X_spread_32 (Or.inr ⟨1, mo, by omega, rfl, hmo, rfl, (cx_in ⟨⟨hn1, hn, hk, hsa, hgl, hb0, hb30, hM⟩, hmv, (gr_raw_of hn hok4), ⟨(bl_ok_raw hSB (gq_len hok4) hok4.1), (bl_ok_raw hS4 (gq_len hok4) hok4.1), hw3⟩, Or.inr ⟨rfl, rfl, hok4, hro4, ⟨_, _, rfl, hSB, hba1, hdy1, rfl, rfl⟩, ⟨_, _, rfl, hS4, hba4, hdy4, rfl, rfl⟩⟩, hF⟩), S4, y4, d4, b4, c9, hba4, hres, rfl, hc9⟩)
    · skip
      refine lv_iconst (v := (-1)) hx hb d_X_spread_11 (by decide) ?_
      exact wz_iret hx hb hr hlocks hK hP hD hS d_X_spread_12 (Or.inl ⟨Or.inr (by
      have h1 : ¬ (0 : Int32) ≤ y := hc1
      rw [Int32.le_iff_toInt_le] at h1
      rw [Int32.lt_iff_toInt_lt]
      omega), rfl, (cx_in ⟨⟨hn1, hn, hk, hsa, hgl, hb0, hb30, hM⟩, hmv, hgr, ⟨hw1, hw2, hw3⟩, hbg, hF⟩)⟩)
def po_X_deepest (q : wz_Q) (ax n k : Nat) (sg tu : Nat → Nat → Nat) (od : Nat → Nat) (sa gl : Nat) (F : cx_F) (x : Int32) : Int32 → wz_G → Prop := fun v w => ((¬ (x = nI 0 ∨ x = nI 1)) ∧ v = -1 ∧ cx q ax n k sg tu od sa gl F w) ∨ ∃ mu, mu ≤ 1 ∧ x = nI mu ∧ cx q ax n k sg tu od sa gl F w ∧ ∃ (S : pz_S) (ly dp : Nat), pz_ball (bl_s n k 0 sg tu od (nI mu)) sa ly dp true S ∧ v = nI dp
set_option maxHeartbeats 4000000 in
set_option maxRecDepth 100000 in
/-- how far the farthest lie -/
theorem c_X_deepest (l : Launch) (D : va_G) (q : wz_Q) (ax n k : Nat) (sg tu : Nat → Nat → Nat) (od : Nat → Nat) (sa gl : Nat) (F : cx_F) (x : Int32) (WW : wz_G) (hW : cx q ax n k sg tu od sa gl F WW) : wz_Mi l y_X_deepest ws_X_deepest ({ frames := 7, cells := 0, slots := 0, locals := 162 } : Room) D q ([.ref ax, .int x] : List Value) WW (po_X_deepest q ax n k sg tu od sa gl F x) 0 0 := by
  obtain ⟨as9, ab, ac, ak, ag, am, b, rl, rt, fo, M, rw, bg, sx, ro, ln, wz, G, st, sl, L, f1, w1, e1, z1, y1, d1, m1, c1, f2, w2, e2, z2, y2, d2, m2, c2, f3, w3, e3, z3, y3, d3, m3, c3, rfl, ⟨hn1, hn, hk, hsa, hgl, hb0, hb30, hM⟩, hmv, hgr, ⟨hw1, hw2, hw3⟩, hbg, hF⟩ := hW
  have hfl := pz_fact_le hn
  intro sz9
  refine wz_enter (cc := b_X_deepest) (maxL := 3) (ret := (some .int)) (Qc := fun A => (va_Qi (po_X_deepest q ax n k sg tu od sa gl F x) (wz_At D q A) A)) (by decide) (Nat.le_of_ble_eq_true rfl) ?_
  intro p e s m below meth c A ls C hP hD hS hl
  obtain ⟨hx, hb, hr, hml, hlocks, hown, hts, hN, hK, hA, hnm⟩ := C
  have hown : s.vm.findClass "TwoEndSearch" = some m.cls := hown
  have hl : lv_has ls 3 [(0, .ref ax), (1, .int x)] := hl
  refine lv_iload_n hx hb d_X_deepest_0 rfl (lv_at hl 1 rfl) ?_
  have hQ := wz_split (n := 9) (gc := []) (gr := [xo_W q ax n (am 0) sa gl (as9 0), se_W q as9 n (am 0) (ag 0) (ab 0) (ac 0) (ak 0) (pz_fact n) rw bg sx ro ln wz, bl_W q ab (am 0) (ag 0) 0 (pz_fact n) f1 w1 e1 z1 y1 d1 m1 c1, bl_W q ac (am 0) (ag 0) 0 (pz_fact n) f2 w2 e2 z2 y2 d2 m2 c2, bl_W q ak (am 0) (ag 0) 6 (pz_fact n) f3 w3 e3 z3 y3 d3 m3 c3, gq_W q ag (am 0) (pz_fact n) (2 ^ b) (32 - b) rl st sl G.length, wz_rows 12 rl (fun i9 => .inl (q.1, pz_fact n, .inl (L i9))), mv_W q am n k rt fo, wz_rows 12 rt (fun i9 => .inl (q.1, 8, .inl (M i9)))]) [] [0, 1, 2, 3, 4, 5, 6, 7, 8] rfl (by decide) rfl rfl hP hD
  refine wz_calli (va_runS (As := [.int x]) (rest := []) ⟨hx, hb, hml, hown, hts⟩ (c_X_isMeasure l D q x _) (va_cwS 1 hts (wz_goodS kw_295 kw_296 kw_30 kw_297) rfl rfl rfl (by decide +kernel) ⟨Nat.le_of_ble_eq_true rfl, Nat.le_of_ble_eq_true rfl⟩) (wz_preS hN hK hQ wz_L_ok) rfl rfl hl.1 rfl (lv_room (Nat.le_of_ble_eq_true rfl)) d_X_deepest_1 ⟨Nat.le_of_ble_eq_true rfl, Nat.le_of_ble_eq_true rfl⟩) hQ hS hA (fun v_1 gx H locs hp0 hP hD hS => ?_)
  obtain ⟨rfl, hp0⟩ := hp0
  obtain ⟨hP, hD⟩ := wz_ord (n := 9) (gs' := [xo_W q ax n (am 0) sa gl (as9 0), se_W q as9 n (am 0) (ag 0) (ab 0) (ac 0) (ak 0) (pz_fact n) rw bg sx ro ln wz, bl_W q ab (am 0) (ag 0) 0 (pz_fact n) f1 w1 e1 z1 y1 d1 m1 c1, bl_W q ac (am 0) (ag 0) 0 (pz_fact n) f2 w2 e2 z2 y2 d2 m2 c2, bl_W q ak (am 0) (ag 0) 6 (pz_fact n) f3 w3 e3 z3 y3 d3 m3 c3, gq_W q ag (am 0) (pz_fact n) (2 ^ b) (32 - b) rl st sl G.length, wz_rows 12 rl (fun i9 => .inl (q.1, pz_fact n, .inl (L i9))), mv_W q am n k rt fo, wz_rows 12 rt (fun i9 => .inl (q.1, 8, .inl (M i9)))]) [0, 1, 2, 3, 4, 5, 6, 7, 8] rfl (by decide) rfl hP hD
  refine lv_if_ne (tgt := 9) hx hb d_X_deepest_4 (by decide) (fun hc => ?_) (fun hc => ?_)
  · skip
    obtain ⟨mu, hmu, rfl⟩ : ∃ mu, (mu = 0 ∨ mu = 1) ∧ x = nI mu := (wz_bit_1 hp0 hc).elim (fun q => ⟨0, Or.inl rfl, q⟩) (fun q => ⟨1, Or.inr rfl, q⟩)
    refine lv_aload_n hx hb d_X_deepest_9 rfl (lv_at hl 0 rfl) ?_
    have hQ := wz_split (n := 9) (gc := [xo_W q ax n (am 0) sa gl (as9 0), se_W q as9 n (am 0) (ag 0) (ab 0) (ac 0) (ak 0) (pz_fact n) rw bg sx ro ln wz, bl_W q ab (am 0) (ag 0) 0 (pz_fact n) f1 w1 e1 z1 y1 d1 m1 c1, bl_W q ac (am 0) (ag 0) 0 (pz_fact n) f2 w2 e2 z2 y2 d2 m2 c2, bl_W q ak (am 0) (ag 0) 6 (pz_fact n) f3 w3 e3 z3 y3 d3 m3 c3, gq_W q ag (am 0) (pz_fact n) (2 ^ b) (32 - b) rl st sl G.length, wz_rows 12 rl (fun i9 => .inl (q.1, pz_fact n, .inl (L i9))), mv_W q am n k rt fo, wz_rows 12 rt (fun i9 => .inl (q.1, 8, .inl (M i9)))]) (gr := []) [0, 1, 2, 3, 4, 5, 6, 7, 8] [] rfl (by decide) rfl rfl hP hD
    refine wz_callr (va_runV (As := []) (rest := []) ⟨hx, hb, hml, hown, hts⟩ (c_X_begunSearch l D q ax n k sg tu od sa gl F as9 ab ac ak ag am b rl rt fo M rw bg sx ro ln wz G st sl L f1 w1 e1 z1 y1 d1 m1 c1 f2 w2 e2 z2 y2 d2 m2 c2 f3 w3 e3 z3 y3 d3 m3 c3 ⟨⟨hn1, hn, hk, hsa, hgl, hb0, hb30, hM⟩, hmv, hgr, ⟨hw1, hw2, hw3⟩, hbg, hF⟩ _) (cwV 0 hts (wz_goodV kw_298 kw_300 kw_5 kw_30 kw_301) rfl rfl rfl (by decide +kernel) ⟨Nat.le_of_ble_eq_true rfl, Nat.le_of_ble_eq_true rfl⟩) (wz_preV (gi := 0) (k := 0) hN hK hQ wz_L_ok rfl rfl rfl) rfl rfl hl.1 rfl (lv_room (Nat.le_of_ble_eq_true rfl)) d_X_deepest_10 ⟨Nat.le_of_ble_eq_true rfl, Nat.le_of_ble_eq_true rfl⟩) hQ hS hA (fun v_10 gx H locs hp hP hD hS => ?_)
    obtain ⟨ro', G', st', sl', L', S1, f1', w1', e1', y1', d1', b1, S2, f2', w2', e2', y2', d2', b2, hv, rfl, hok, hro, ⟨hS1, hba1, hdy1⟩, ⟨hS2, hba2, hdy2⟩⟩ := hp
    have hGl := gq_len hok
    have hv : v_10 = as9 0 := hv
    subst hv
    obtain ⟨hP, hD⟩ := wz_ord (n := 9) (gs' := [xo_W q ax n (am 0) sa gl (as9 0), se_W q as9 n (am 0) (ag 0) (ab 0) (ac 0) (ak 0) (pz_fact n) rw (nI 1) sa ro' ln wz, bl_W q ab (am 0) (ag 0) 0 (pz_fact n) f1' w1' e1' S1.1.length y1' d1' (nI 0) (bl_b b1), bl_W q ac (am 0) (ag 0) 0 (pz_fact n) f2' w2' e2' S2.1.length y2' d2' (nI 1) (bl_b b2), bl_W q ak (am 0) (ag 0) 6 (pz_fact n) f3 w3 e3 z3 y3 d3 m3 c3, gq_W q ag (am 0) (pz_fact n) (2 ^ b) (32 - b) rl st' sl' G'.length, wz_rows 12 rl (fun i9 => .inl (q.1, pz_fact n, .inl (L' i9))), mv_W q am n k rt fo, wz_rows 12 rt (fun i9 => .inl (q.1, 8, .inl (M i9)))]) [0, 1, 2, 3, 4, 5, 6, 7, 8] rfl (by decide) rfl hP hD
    refine lv_iload_n hx hb d_X_deepest_13 rfl (lv_at hl 1 rfl) ?_
    have hQ := wz_split (n := 9) (gc := [se_W q as9 n (am 0) (ag 0) (ab 0) (ac 0) (ak 0) (pz_fact n) rw (nI 1) sa ro' ln wz]) (gr := [xo_W q ax n (am 0) sa gl (as9 0), bl_W q ab (am 0) (ag 0) 0 (pz_fact n) f1' w1' e1' S1.1.length y1' d1' (nI 0) (bl_b b1), bl_W q ac (am 0) (ag 0) 0 (pz_fact n) f2' w2' e2' S2.1.length y2' d2' (nI 1) (bl_b b2), bl_W q ak (am 0) (ag 0) 6 (pz_fact n) f3 w3 e3 z3 y3 d3 m3 c3, gq_W q ag (am 0) (pz_fact n) (2 ^ b) (32 - b) rl st' sl' G'.length, wz_rows 12 rl (fun i9 => .inl (q.1, pz_fact n, .inl (L' i9))), mv_W q am n k rt fo, wz_rows 12 rt (fun i9 => .inl (q.1, 8, .inl (M i9)))]) [1] [0, 2, 3, 4, 5, 6, 7, 8] rfl (by decide) rfl rfl hP hD
    refine wz_callr (va_runV (As := [.int (nI mu)]) (rest := []) ⟨hx, hb, hml, hown, hts⟩ (c_S_ahead l D q as9 n (am 0) (ag 0) (ab 0) (ac 0) (ak 0) (pz_fact n) rw (nI 1) sa ro' ln wz (nI mu) _) (cwV 1 hts (wz_goodV kw_408 kw_336 kw_337 kw_33 kw_338) rfl rfl rfl (by decide +kernel) ⟨Nat.le_of_ble_eq_true rfl, Nat.le_of_ble_eq_true rfl⟩) (wz_preV (gi := 0) (k := 0) hN hK hQ wz_L_ok rfl rfl rfl) rfl rfl hl.1 rfl (lv_room (Nat.le_of_ble_eq_true rfl)) d_X_deepest_14 ⟨Nat.le_of_ble_eq_true rfl, Nat.le_of_ble_eq_true rfl⟩) hQ hS hA (fun v_14 gx H locs hp hP hD hS => ?_)
    obtain ⟨rfl, hv⟩ := hp
    have hv : v_14 = if nI mu = 0 then ab 0 else ac 0 := hv
    rcases hmu with rfl | rfl
    · skip
      have hv : v_14 = ab 0 := hv
      subst hv
      obtain ⟨hP, hD⟩ := wz_ord (n := 9) (gs' := [xo_W q ax n (am 0) sa gl (as9 0), se_W q as9 n (am 0) (ag 0) (ab 0) (ac 0) (ak 0) (pz_fact n) rw (nI 1) sa ro' ln wz, bl_W q ab (am 0) (ag 0) 0 (pz_fact n) f1' w1' e1' S1.1.length y1' d1' (nI 0) (bl_b b1), bl_W q ac (am 0) (ag 0) 0 (pz_fact n) f2' w2' e2' S2.1.length y2' d2' (nI 1) (bl_b b2), bl_W q ak (am 0) (ag 0) 6 (pz_fact n) f3 w3 e3 z3 y3 d3 m3 c3, gq_W q ag (am 0) (pz_fact n) (2 ^ b) (32 - b) rl st' sl' G'.length, wz_rows 12 rl (fun i9 => .inl (q.1, pz_fact n, .inl (L' i9))), mv_W q am n k rt fo, wz_rows 12 rt (fun i9 => .inl (q.1, 8, .inl (M i9)))]) [1, 0, 2, 3, 4, 5, 6, 7, 8] rfl (by decide) rfl hP hD
      refine lv_astore_n (lv' := [(2, .ref (ab 0)), (0, .ref ax), (1, .int (nI 0))]) hx hb d_X_deepest_17 rfl hl (by decide) rfl (fun ls hl => ?_)
      refine lv_aload_n hx hb d_X_deepest_18 rfl (lv_at hl 0 rfl) ?_
      have hQ := wz_split (n := 9) (gc := [bl_W q ab (am 0) (ag 0) 0 (pz_fact n) f1' w1' e1' S1.1.length y1' d1' (nI 0) (bl_b b1), gq_W q ag (am 0) (pz_fact n) (2 ^ b) (32 - b) rl st' sl' G'.length, wz_rows 12 rl (fun i9 => .inl (q.1, pz_fact n, .inl (L' i9))), mv_W q am n k rt fo, wz_rows 12 rt (fun i9 => .inl (q.1, 8, .inl (M i9)))]) (gr := [xo_W q ax n (am 0) sa gl (as9 0), se_W q as9 n (am 0) (ag 0) (ab 0) (ac 0) (ak 0) (pz_fact n) rw (nI 1) sa ro' ln wz, bl_W q ac (am 0) (ag 0) 0 (pz_fact n) f2' w2' e2' S2.1.length y2' d2' (nI 1) (bl_b b2), bl_W q ak (am 0) (ag 0) 6 (pz_fact n) f3 w3 e3 z3 y3 d3 m3 c3]) [2, 5, 6, 7, 8] [0, 1, 3, 4] rfl (by decide) rfl rfl hP hD
      refine wz_callv (va_runV (As := []) (rest := []) ⟨hx, hb, hml, hown, hts⟩ (c_B_growWhole l D q ab ag am n b k 0 rl rt fo M sg tu od sa G' st' sl' L' S1 f1' w1' e1' y1' d1' (nI 0) (bl_b b1) sa b1 hn hb0 hb30 hM hk (Or.inl rfl) hmv hok hS1 hba1 rfl hdy1 _) (cwV 0 hts (wz_goodV kw_427 kw_428 kw_429 kw_35 kw_430) rfl rfl rfl (by decide +kernel) ⟨Nat.le_of_ble_eq_true rfl, Nat.le_of_ble_eq_true rfl⟩) (wz_preV (gi := 0) (k := 0) hN hK hQ wz_L_ok rfl rfl rfl) rfl rfl hl.1 rfl (lv_room (Nat.le_of_ble_eq_true rfl)) d_X_deepest_19 ⟨Nat.le_of_ble_eq_true rfl, Nat.le_of_ble_eq_true rfl⟩) hQ hS hA (fun gx H locs hp hP hD hS => ?_)
      obtain ⟨G4, st4, sl4, L4, S4, f4, w4, e4, y4, d4, rfl, hba4, hdy4, ⟨Nw, hNw⟩, hok4, hS4⟩ := hp
      have hG4 := gq_len hok4
      have hSB := bl_more hS2 ⟨Nw, hNw⟩ hok4.1 hG4
      have hro4 : G4[ro']? = some sa := by rw [hNw, List.getElem?_append_left (List.getElem?_eq_some_iff.mp hro).1]; exact hro
      have hS4l := bl_len hS4
      have hly4 := hba4.2.1
      have hd30 : d4 < 2 ^ 30 := by omega
      obtain ⟨hP, hD⟩ := wz_ord (n := 9) (gs' := [xo_W q ax n (am 0) sa gl (as9 0), se_W q as9 n (am 0) (ag 0) (ab 0) (ac 0) (ak 0) (pz_fact n) rw (nI 1) sa ro' ln wz, bl_W q ab (am 0) (ag 0) 0 (pz_fact n) f4 w4 e4 S4.1.length y4 d4 (nI 0) (bl_b true), bl_W q ac (am 0) (ag 0) 0 (pz_fact n) f2' w2' e2' S2.1.length y2' d2' (nI 1) (bl_b b2), bl_W q ak (am 0) (ag 0) 6 (pz_fact n) f3 w3 e3 z3 y3 d3 m3 c3, gq_W q ag (am 0) (pz_fact n) (2 ^ b) (32 - b) rl st4 sl4 G4.length, wz_rows 12 rl (fun i9 => .inl (q.1, pz_fact n, .inl (L4 i9))), mv_W q am n k rt fo, wz_rows 12 rt (fun i9 => .inl (q.1, 8, .inl (M i9)))]) [5, 6, 0, 7, 8, 1, 2, 3, 4] rfl (by decide) rfl hP hD
      refine lv_aload_n hx hb d_X_deepest_22 rfl (lv_at hl 0 rfl) ?_
      refine wz_getN (v := .int (nI d4)) (T := T_B) (N := 11) hx hb hts i_B hown hK hP 2 0 rfl rfl rfl 8 (by decide) (hN.1 _ (List.mem_of_getElem? (i := 11) rfl)) rfl rfl d_X_deepest_23 ?_
      exact wz_iret hx hb hr hlocks hK hP hD hS d_X_deepest_26 (Or.inr ⟨0, by omega, rfl, (cx_in ⟨⟨hn1, hn, hk, hsa, hgl, hb0, hb30, hM⟩, hmv, (gr_raw_of hn hok4), ⟨(bl_ok_raw hS4 (gq_len hok4) hok4.1), (bl_ok_raw hSB (gq_len hok4) hok4.1), hw3⟩, Or.inr ⟨rfl, rfl, hok4, hro4, ⟨_, _, rfl, hS4, hba4, hdy4, rfl, rfl⟩, ⟨_, _, rfl, hSB, hba2, hdy2, rfl, rfl⟩⟩, hF⟩), S4, y4, d4, hba4, rfl⟩)
    · skip
      have hv : v_14 = ac 0 := hv
      subst hv
      obtain ⟨hP, hD⟩ := wz_ord (n := 9) (gs' := [xo_W q ax n (am 0) sa gl (as9 0), se_W q as9 n (am 0) (ag 0) (ab 0) (ac 0) (ak 0) (pz_fact n) rw (nI 1) sa ro' ln wz, bl_W q ab (am 0) (ag 0) 0 (pz_fact n) f1' w1' e1' S1.1.length y1' d1' (nI 0) (bl_b b1), bl_W q ac (am 0) (ag 0) 0 (pz_fact n) f2' w2' e2' S2.1.length y2' d2' (nI 1) (bl_b b2), bl_W q ak (am 0) (ag 0) 6 (pz_fact n) f3 w3 e3 z3 y3 d3 m3 c3, gq_W q ag (am 0) (pz_fact n) (2 ^ b) (32 - b) rl st' sl' G'.length, wz_rows 12 rl (fun i9 => .inl (q.1, pz_fact n, .inl (L' i9))), mv_W q am n k rt fo, wz_rows 12 rt (fun i9 => .inl (q.1, 8, .inl (M i9)))]) [1, 0, 2, 3, 4, 5, 6, 7, 8] rfl (by decide) rfl hP hD
      refine lv_astore_n (lv' := [(2, .ref (ac 0)), (0, .ref ax), (1, .int (nI 1))]) hx hb d_X_deepest_17 rfl hl (by decide) rfl (fun ls hl => ?_)
      refine lv_aload_n hx hb d_X_deepest_18 rfl (lv_at hl 0 rfl) ?_
      have hQ := wz_split (n := 9) (gc := [bl_W q ac (am 0) (ag 0) 0 (pz_fact n) f2' w2' e2' S2.1.length y2' d2' (nI 1) (bl_b b2), gq_W q ag (am 0) (pz_fact n) (2 ^ b) (32 - b) rl st' sl' G'.length, wz_rows 12 rl (fun i9 => .inl (q.1, pz_fact n, .inl (L' i9))), mv_W q am n k rt fo, wz_rows 12 rt (fun i9 => .inl (q.1, 8, .inl (M i9)))]) (gr := [xo_W q ax n (am 0) sa gl (as9 0), se_W q as9 n (am 0) (ag 0) (ab 0) (ac 0) (ak 0) (pz_fact n) rw (nI 1) sa ro' ln wz, bl_W q ab (am 0) (ag 0) 0 (pz_fact n) f1' w1' e1' S1.1.length y1' d1' (nI 0) (bl_b b1), bl_W q ak (am 0) (ag 0) 6 (pz_fact n) f3 w3 e3 z3 y3 d3 m3 c3]) [3, 5, 6, 7, 8] [0, 1, 2, 4] rfl (by decide) rfl rfl hP hD
      refine wz_callv (va_runV (As := []) (rest := []) ⟨hx, hb, hml, hown, hts⟩ (c_B_growWhole l D q ac ag am n b k 0 rl rt fo M sg tu od sa G' st' sl' L' S2 f2' w2' e2' y2' d2' (nI 1) (bl_b b2) sa b2 hn hb0 hb30 hM hk (Or.inl rfl) hmv hok hS2 hba2 rfl hdy2 _) (cwV 0 hts (wz_goodV kw_427 kw_428 kw_429 kw_35 kw_430) rfl rfl rfl (by decide +kernel) ⟨Nat.le_of_ble_eq_true rfl, Nat.le_of_ble_eq_true rfl⟩) (wz_preV (gi := 0) (k := 0) hN hK hQ wz_L_ok rfl rfl rfl) rfl rfl hl.1 rfl (lv_room (Nat.le_of_ble_eq_true rfl)) d_X_deepest_19 ⟨Nat.le_of_ble_eq_true rfl, Nat.le_of_ble_eq_true rfl⟩) hQ hS hA (fun gx H locs hp hP hD hS => ?_)
      obtain ⟨G4, st4, sl4, L4, S4, f4, w4, e4, y4, d4, rfl, hba4, hdy4, ⟨Nw, hNw⟩, hok4, hS4⟩ := hp
      have hG4 := gq_len hok4
      have hSB := bl_more hS1 ⟨Nw, hNw⟩ hok4.1 hG4
      have hro4 : G4[ro']? = some sa := by rw [hNw, List.getElem?_append_left (List.getElem?_eq_some_iff.mp hro).1]; exact hro
      have hS4l := bl_len hS4
      have hly4 := hba4.2.1
      have hd30 : d4 < 2 ^ 30 := by omega
      obtain ⟨hP, hD⟩ := wz_ord (n := 9) (gs' := [xo_W q ax n (am 0) sa gl (as9 0), se_W q as9 n (am 0) (ag 0) (ab 0) (ac 0) (ak 0) (pz_fact n) rw (nI 1) sa ro' ln wz, bl_W q ab (am 0) (ag 0) 0 (pz_fact n) f1' w1' e1' S1.1.length y1' d1' (nI 0) (bl_b b1), bl_W q ac (am 0) (ag 0) 0 (pz_fact n) f4 w4 e4 S4.1.length y4 d4 (nI 1) (bl_b true), bl_W q ak (am 0) (ag 0) 6 (pz_fact n) f3 w3 e3 z3 y3 d3 m3 c3, gq_W q ag (am 0) (pz_fact n) (2 ^ b) (32 - b) rl st4 sl4 G4.length, wz_rows 12 rl (fun i9 => .inl (q.1, pz_fact n, .inl (L4 i9))), mv_W q am n k rt fo, wz_rows 12 rt (fun i9 => .inl (q.1, 8, .inl (M i9)))]) [5, 6, 7, 0, 8, 1, 2, 3, 4] rfl (by decide) rfl hP hD
      refine lv_aload_n hx hb d_X_deepest_22 rfl (lv_at hl 0 rfl) ?_
      refine wz_getN (v := .int (nI d4)) (T := T_B) (N := 11) hx hb hts i_B hown hK hP 3 0 rfl rfl rfl 8 (by decide) (hN.1 _ (List.mem_of_getElem? (i := 11) rfl)) rfl rfl d_X_deepest_23 ?_
      exact wz_iret hx hb hr hlocks hK hP hD hS d_X_deepest_26 (Or.inr ⟨1, by omega, rfl, (cx_in ⟨⟨hn1, hn, hk, hsa, hgl, hb0, hb30, hM⟩, hmv, (gr_raw_of hn hok4), ⟨(bl_ok_raw hSB (gq_len hok4) hok4.1), (bl_ok_raw hS4 (gq_len hok4) hok4.1), hw3⟩, Or.inr ⟨rfl, rfl, hok4, hro4, ⟨_, _, rfl, hSB, hba1, hdy1, rfl, rfl⟩, ⟨_, _, rfl, hS4, hba4, hdy4, rfl, rfl⟩⟩, hF⟩), S4, y4, d4, hba4, rfl⟩)
  · skip
    refine lv_iconst (v := (-1)) hx hb d_X_deepest_7 (by decide) ?_
    exact wz_iret hx hb hr hlocks hK hP hD hS d_X_deepest_8 (Or.inl ⟨wz_bit_0 hp0 hc, rfl, (cx_in ⟨⟨hn1, hn, hk, hsa, hgl, hb0, hb30, hM⟩, hmv, hgr, ⟨hw1, hw2, hw3⟩, hbg, hF⟩)⟩)
