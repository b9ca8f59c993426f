
theorem kw_29 : (Cond.initialized "TwoEndSearchLaw" : Cond) ∈ bigW := bigW_of 29 (by decide +kernel) (by decide +kernel)
theorem kw_38 : (Cond.classLink "TwoEndSearchLaw" 7 "TwoEndSearch" : Cond) ∈ bigW := bigW_of 38 (by decide +kernel) (by decide +kernel)
theorem kw_40 : (Cond.methodLink "TwoEndSearchLaw" 15 ⟨"TwoEndSearch", "<init>", "(I)V"⟩ : Cond) ∈ bigW := bigW_of 40 (by decide +kernel) (by decide +kernel)
theorem kw_41 : (Cond.instanceMethod ⟨"TwoEndSearch", "<init>", "(I)V"⟩ : Cond) ∈ bigW := bigW_of 41 (by decide +kernel) (by decide +kernel)
theorem kw_42 : (Cond.code ⟨"TwoEndSearch", "<init>", "(I)V"⟩ prog_1_method_1_code 2 none : Cond) ∈ bigW := bigW_of 42 (by decide +kernel) (by decide +kernel)
theorem kw_446 : (Cond.methodLink "TwoEndSearchLaw" 9 ⟨"TwoEndSearchLaw", "cell", "([II)I"⟩ : Cond) ∈ bigW := bigW_of 446 (by decide +kernel) (by decide +kernel)
theorem kw_447 : (Cond.static ⟨"TwoEndSearchLaw", "cell", "([II)I"⟩ : Cond) ∈ bigW := bigW_of 447 (by decide +kernel) (by decide +kernel)
theorem kw_448 : (Cond.code ⟨"TwoEndSearchLaw", "cell", "([II)I"⟩ method_2_code 2 (some .int) : Cond) ∈ bigW := bigW_of 448 (by decide +kernel) (by decide +kernel)
theorem kw_449 : (Cond.classLink "TwoEndSearchLaw" 18 "TwoEndSearchModel" : Cond) ∈ bigW := bigW_of 449 (by decide +kernel) (by decide +kernel)
theorem kw_451 : (Cond.methodLink "TwoEndSearchLaw" 20 ⟨"TwoEndSearchModel", "<init>", "(I)V"⟩ : Cond) ∈ bigW := bigW_of 451 (by decide +kernel) (by decide +kernel)
theorem kw_452 : (Cond.instanceMethod ⟨"TwoEndSearchModel", "<init>", "(I)V"⟩ : Cond) ∈ bigW := bigW_of 452 (by decide +kernel) (by decide +kernel)
theorem kw_453 : (Cond.code ⟨"TwoEndSearchModel", "<init>", "(I)V"⟩ prog_7_method_1_code 2 none : Cond) ∈ bigW := bigW_of 453 (by decide +kernel) (by decide +kernel)
set_option maxHeartbeats 4000000 in
set_option maxRecDepth 100000 in
/-- the law, from its entry -/
theorem whole_start {p : Program} {e : Env} {s : State} {m : MethodId} {below : List Frame} {meth : Method} {c : Code} (l : Launch) {bs L : Nat} {xs : Nat → Int32} (hL : L ≤ 2049) (C0 : lw_At p s m meth c bs L xs) : W p l e room_1 s m #[Value.ref bs] below meth c s.heap [] 0 0 (lw_Z below #[Value.ref bs] s) (entryFrame m ([Value.ref bs] : List Value).toArray 4) := by
  obtain ⟨hx, hb, hr, hml, hown, htbl, hX, hbl, hlocks, hgv⟩ := id C0
  obtain ⟨D, q, hK, hN, hts⟩ := lw_world htbl
  have hA : ∀ k9 : Nat, s.heap.size ≤ k9 → (fun k9 : Nat => s.heap.size ≤ k9) k9 := fun _ h => h
  have hbA : ¬ (fun k9 : Nat => s.heap.size ≤ k9) bs := Nat.not_le.mpr hbl
  have hS : va_S (fun k9 : Nat => s.heap.size ≤ k9) s.heap s.heap [] := va_S.rf
  have hP : va_P D vwCl ([] : wz_G).flatten s.heap := fun k9 q9 h => by simp at h
  have hD : va_D (fun k9 : Nat => s.heap.size ≤ k9) ([] : wz_G).flatten := ⟨fun i j p q h => by simp at h, fun k q h => by simp at h⟩
  have hl := lv_entry ([.ref bs]) (n := 4) (Nat.le_of_ble_eq_true rfl)
  rw [lg_entry_eq]
  generalize (lg_sl ([.ref bs]) ++ List.replicate (4 - (lg_sl ([.ref bs])).length) Slot.unset).toArray = ls at hl ⊢
  have hl : lv_has ls 4 [(0, .ref bs)] := hl
  have hown : s.vm.findClass "TwoEndSearchLaw" = some m.cls := hown
  refine wz_new (T := T_X) (N := 5) (ci := 4) (fs := [.int (nI 0), .null, .int (nI 0), .int (nI 0), .null]) hx hb hts i_X t_X t_X_ok hown (hts _ kw_38) (hts _ kw_39) (hts _ kw_30) hK hP hD hS hA rfl (fun j hj => by rcases (show j = 0 ∨ j = 1 ∨ j = 2 ∨ j = 3 ∨ j = 4 by omega) with rfl | rfl | rfl | rfl | rfl <;> rfl) (Nat.le_of_ble_eq_true rfl) (Nat.le_of_ble_eq_true rfl) d_L_law_0 (fun r_0 H hP hD hS => ?_)
  have hP : va_P D vwCl ([[(r_0, .inr (4, [.int (nI 0), .null, .int (nI 0), .int (nI 0), .null]))]] : wz_G).flatten H := hP
  have hD : va_D (fun k9 : Nat => s.heap.size ≤ k9) ([[(r_0, .inr (4, [.int (nI 0), .null, .int (nI 0), .int (nI 0), .null]))]] : wz_G).flatten := hD
  refine lv_dup hx hb d_L_law_3 rfl ?_
  refine lv_aload_n hx hb d_L_law_4 rfl (lv_at hl 0 rfl) ?_
  refine lv_iconst (v := nI 0) hx hb d_L_law_5 (by decide) ?_
  have hQ := wz_split (n := 1) (gc := []) (gr := [[(r_0, .inr (4, [.int (nI 0), .null, .int (nI 0), .int (nI 0), .null]))]]) [] [0] rfl (by decide) rfl rfl hP hD
  refine wz_calli (va_runS (As := [.ref bs, .int (nI 0)]) (rest := [.ref r_0, .ref r_0]) ⟨hx, hb, hml, hown, hts⟩ (c_L_cell l D q bs L 0 xs (by omega) (by decide) _) (va_cwS 2 hts (wz_goodS kw_446 kw_447 kw_29 kw_448) rfl rfl rfl (by decide +kernel) ⟨Nat.le_of_ble_eq_true rfl, Nat.le_of_ble_eq_true rfl⟩) (wz_preX hN hK hQ wz_L_ok hX hbl hbA hS) rfl rfl hl.1 rfl (lv_room (Nat.le_of_ble_eq_true rfl)) d_L_law_6 ⟨Nat.le_of_ble_eq_true rfl, Nat.le_of_ble_eq_true rfl⟩) hQ hS hA (fun v_6 gx H locs hp hP hD hS => ?_)
  obtain ⟨rfl, hv6⟩ := hp
  obtain ⟨hP, hD⟩ := wz_ord (n := 1) (gs' := [[(r_0, .inr (4, [.int (nI 0), .null, .int (nI 0), .int (nI 0), .null]))]]) [0] rfl (by decide) rfl hP hD
  have hQ := wz_split (n := 1) (gc := [[(r_0, .inr (4, [.int (nI 0), .null, .int (nI 0), .int (nI 0), .null]))]]) (gr := []) [0] [] rfl (by decide) rfl rfl hP hD
  refine wz_callv (va_runI (As := [.int v_6]) (rest := [.ref r_0]) ⟨hx, hb, hml, hown, hts⟩ (wz_flat_Mv (c_X_init l D q r_0 v_6) _) (cwI 1 hts (wz_good kw_42) rfl rfl rfl (hts _ kw_30) (hts _ kw_40) (hts _ kw_41) rfl (by decide +kernel) ⟨Nat.le_of_ble_eq_true rfl, Nat.le_of_ble_eq_true rfl⟩) (wz_preS hN hK hQ wz_L_ok) rfl rfl hl.1 rfl (lv_room (Nat.le_of_ble_eq_true rfl)) d_L_law_9 ⟨Nat.le_of_ble_eq_true rfl, Nat.le_of_ble_eq_true rfl⟩) hQ hS hA (fun gx H locs hp hP hD hS => ?_)
  obtain ⟨WX, rfl, sg, tu, od, hcx⟩ := hp
  obtain ⟨hP, hD⟩ := wz_ord (n := 1) (gs' := [WX.flatten]) [0] rfl (by decide) rfl hP hD
  refine lv_astore_n (lv' := [(1, .ref r_0), (0, .ref bs)]) hx hb d_L_law_12 rfl hl (by decide) rfl (fun ls hl => ?_)
  refine wz_new (T := T_Z) (N := 22) (ci := 5) (fs := [.int (nI 0), .int (nI 0), .int (nI 0), .null, .null, .null, .null, .int (nI 0), .int (nI 0), .int (nI 0), .null, .null, .null, .null, .int (nI 0), .int (nI 0), .int (nI 0), .long 0, .null, .null, .null, .null]) hx hb hts i_Z t_Z t_Z_ok hown (hts _ kw_449) (hts _ kw_450) (hts _ kw_37) hK hP hD hS hA rfl (fun j hj => by rcases (show j = 0 ∨ j = 1 ∨ j = 2 ∨ j = 3 ∨ j = 4 ∨ j = 5 ∨ j = 6 ∨ j = 7 ∨ j = 8 ∨ j = 9 ∨ j = 10 ∨ j = 11 ∨ j = 12 ∨ j = 13 ∨ j = 14 ∨ j = 15 ∨ j = 16 ∨ j = 17 ∨ j = 18 ∨ j = 19 ∨ j = 20 ∨ j = 21 by omega) with rfl | rfl | rfl | rfl | rfl | rfl | rfl | rfl | rfl | rfl | rfl | rfl | rfl | rfl | rfl | rfl | rfl | rfl | rfl | rfl | rfl | rfl <;> rfl) (Nat.le_of_ble_eq_true rfl) (Nat.le_of_ble_eq_true rfl) d_L_law_13 (fun r_13 H hP hD hS => ?_)
  have hP : va_P D vwCl ([WX.flatten, [(r_13, .inr (5, [.int (nI 0), .int (nI 0), .int (nI 0), .null, .null, .null, .null, .int (nI 0), .int (nI 0), .int (nI 0), .null, .null, .null, .null, .int (nI 0), .int (nI 0), .int (nI 0), .long 0, .null, .null, .null, .null]))]] : wz_G).flatten H := hP
  have hD : va_D (fun k9 : Nat => s.heap.size ≤ k9) ([WX.flatten, [(r_13, .inr (5, [.int (nI 0), .int (nI 0), .int (nI 0), .null, .null, .null, .null, .int (nI 0), .int (nI 0), .int (nI 0), .null, .null, .null, .null, .int (nI 0), .int (nI 0), .int (nI 0), .long 0, .null, .null, .null, .null]))]] : wz_G).flatten := hD
  refine lv_dup hx hb d_L_law_16 rfl ?_
  refine lv_aload_n hx hb d_L_law_17 rfl (lv_at hl 1 rfl) ?_
  refine lv_iconst (v := nI 0) hx hb d_L_law_18 (by decide) ?_
  have hQ := wz_split (n := 2) (gc := []) (gr := [WX.flatten, [(r_13, .inr (5, [.int (nI 0), .int (nI 0), .int (nI 0), .null, .null, .null, .null, .int (nI 0), .int (nI 0), .int (nI 0), .null, .null, .null, .null, .int (nI 0), .int (nI 0), .int (nI 0), .long 0, .null, .null, .null, .null]))]]) [] [0, 1] rfl (by decide) rfl rfl hP hD
  refine wz_calli (va_runS (As := [.ref bs, .int (nI 0)]) (rest := [.ref r_13, .ref r_13]) ⟨hx, hb, hml, hown, hts⟩ (c_L_cell l D q bs L 0 xs (by omega) (by decide) _) (va_cwS 2 hts (wz_goodS kw_446 kw_447 kw_29 kw_448) rfl rfl rfl (by decide +kernel) ⟨Nat.le_of_ble_eq_true rfl, Nat.le_of_ble_eq_true rfl⟩) (wz_preX hN hK hQ wz_L_ok hX hbl hbA hS) rfl rfl hl.1 rfl (lv_room (Nat.le_of_ble_eq_true rfl)) d_L_law_19 ⟨Nat.le_of_ble_eq_true rfl, Nat.le_of_ble_eq_true rfl⟩) hQ hS hA (fun v_19 gx H locs hp hP hD hS => ?_)
  obtain ⟨rfl, hv19⟩ := hp
  obtain rfl : v_19 = v_6 := hv19.trans hv6.symm
  obtain ⟨hP, hD⟩ := wz_ord (n := 2) (gs' := [WX.flatten, [(r_13, .inr (5, [.int (nI 0), .int (nI 0), .int (nI 0), .null, .null, .null, .null, .int (nI 0), .int (nI 0), .int (nI 0), .null, .null, .null, .null, .int (nI 0), .int (nI 0), .int (nI 0), .long 0, .null, .null, .null, .null]))]]) [0, 1] rfl (by decide) rfl hP hD
  have hQ := wz_split (n := 2) (gc := [[(r_13, .inr (5, [.int (nI 0), .int (nI 0), .int (nI 0), .null, .null, .null, .null, .int (nI 0), .int (nI 0), .int (nI 0), .null, .null, .null, .null, .int (nI 0), .int (nI 0), .int (nI 0), .long 0, .null, .null, .null, .null]))]]) (gr := [WX.flatten]) [1] [0] rfl (by decide) rfl rfl hP hD
  refine wz_callv (va_runI (As := [.int v_19]) (rest := [.ref r_13]) ⟨hx, hb, hml, hown, hts⟩ (c_Z_init l D q r_13 v_19 _) (cwI 1 hts (wz_good kw_453) rfl rfl rfl (hts _ kw_37) (hts _ kw_451) (hts _ kw_452) rfl (by decide +kernel) ⟨Nat.le_of_ble_eq_true rfl, Nat.le_of_ble_eq_true rfl⟩) (wz_preS hN hK hQ wz_L_ok) rfl rfl hl.1 rfl (lv_room (Nat.le_of_ble_eq_true rfl)) d_L_law_22 ⟨Nat.le_of_ble_eq_true rfl, Nat.le_of_ble_eq_true rfl⟩) hQ hS hA (fun gx H locs hp hP hD hS => ?_)
  obtain ⟨az, to, fo, sb, gb, st, sp, wy, se, ms, ts, r1, r2, haz, rfl, hfr⟩ := hp
  have hP9 := hP
  have hD9 := hD
  subst haz
  have hP : va_P D vwCl ([zo_W q az (nI 0) (pz_n v_19) 0 (-1) (nI 0) 0 (nI 0) 0 (nI 0) 0, zt_W q az to fo, zs_W q az sb gb, zb_W q az st sp wy se, zf_W q az ms ts, zq_W q az r1 r2, WX.flatten] : wz_G).flatten H := hP9
  have hD : va_D (fun k9 : Nat => s.heap.size ≤ k9) ([zo_W q az (nI 0) (pz_n v_19) 0 (-1) (nI 0) 0 (nI 0) 0 (nI 0) 0, zt_W q az to fo, zs_W q az sb gb, zb_W q az st sp wy se, zf_W q az ms ts, zq_W q az r1 r2, WX.flatten] : wz_G).flatten := hD9
  obtain ⟨hP, hD⟩ := wz_ord (n := 7) (gs' := [WX.flatten, zo_W q az (nI 0) (pz_n v_19) 0 (-1) (nI 0) 0 (nI 0) 0 (nI 0) 0, zt_W q az to fo, zs_W q az sb gb, zb_W q az st sp wy se, zf_W q az ms ts, zq_W q az r1 r2]) [6, 0, 1, 2, 3, 4, 5] rfl (by decide) rfl hP hD
  have hP : va_P D vwCl ([WX.flatten, zo_W q az (nI 0) (pz_n v_19) 0 (-1) (nI 0) 0 (nI 0) 0 (nI 0) 0, zt_W q az to fo, zs_W q az sb gb, zb_W q az st sp wy se, zf_W q az ms ts, zq_W q az r1 r2] : wz_G).flatten H := hP
  have hD : va_D (fun k9 : Nat => s.heap.size ≤ k9) ([WX.flatten, zo_W q az (nI 0) (pz_n v_19) 0 (-1) (nI 0) 0 (nI 0) 0 (nI 0) 0, zt_W q az to fo, zs_W q az sb gb, zb_W q az st sp wy se, zf_W q az ms ts, zq_W q az r1 r2] : wz_G).flatten := hD
  refine lv_astore_n (lv' := [(2, .ref (az 0)), (1, .ref r_0), (0, .ref bs)]) hx hb d_L_law_25 rfl hl (by decide) rfl (fun ls hl => ?_)
  refine lv_iconst (v := nI 1) hx hb d_L_law_26 (by decide) ?_
  refine lv_istore_n (lv' := [(3, .int (nI 1)), (2, .ref (az 0)), (1, .ref r_0), (0, .ref bs)]) hx hb d_L_law_27 rfl hl (by decide) rfl (fun ls hl => ?_)
  refine W.widen (k := 600000) (n := 7302250) (Nat.le_of_ble_eq_true rfl) (Nat.le_of_ble_eq_true rfl) ?_
  obtain ⟨hn1, hn⟩ := pz_n_in v_19
  exact lw_loop hx hb hml hown hts hN hK hX hbl (by omega) hr hlocks (L + 5) 1 (by omega) (by omega) 0 sg tu od (pz_first (pz_n v_19)) (pz_first (pz_n v_19)) none WX (nI 0) (-1) (nI 0) 0 (nI 0) 0 (nI 0) 0 to fo sb gb st sp wy se ms ts r1 r2 hcx ⟨⟨hn1, hn, by omega⟩, fun o ho => absurd ho (by omega), zs_first hn (fun p hp => (hfr p hp).1), zs_first hn (fun p hp => (hfr p hp).2), by omega, (fun mu hm h => (cz_new h hm).elim), rfl⟩ _ _ _ hP hD hS (lv_sub hl [3, 2, 1, 0] rfl)
