theorem pz_n_mm (x : Int32) : (if nI 1 < (if x < nI 8 then x else nI 8) then (if x < nI 8 then x else nI 8) else nI 1) = nI (pz_n x) := by
  by_cases h1 : nI 1 ≤ x
  · by_cases h2 : x ≤ nI 8
    · obtain ⟨e, h3, h4⟩ := pz_n_x h1 h2
      generalize pz_n x = j at e h3 h4 ⊢
      subst e
      by_cases h5 : j < 8
      · rw [if_pos ((nI_ltI (by omega) (by omega)).mpr h5)]
        by_cases h6 : 1 < j
        · rw [if_pos ((nI_ltI (by omega) (by omega)).mpr h6)]
        · rw [if_neg (fun q => h6 ((nI_ltI (by omega) (by omega)).mp q)), show j = 1 by omega]
      · rw [if_neg (fun q => h5 ((nI_ltI (by omega) (by omega)).mp q)), if_pos (by decide), show j = 8 by omega]
    · rw [pz_n_8 h1 h2, if_neg (fun q => h2 (Int32.le_of_lt q)), if_pos (by decide)]
  · have hx : x < nI 8 := by
      rw [Int32.le_iff_toInt_le] at h1
      rw [Int32.lt_iff_toInt_lt]
      have e1 : (nI 1).toInt = 1 := by decide
      have e8 : (nI 8).toInt = 8 := by decide
      omega
    rw [pz_n_1 h1, if_pos hx, if_neg (fun q => h1 (Int32.le_of_lt q))]
theorem d_X_init_0 : decode b_X_init 0 = .ok (.aload_n 0, 1) := by decide +kernel
theorem d_X_init_1 : decode b_X_init 1 = .ok (.invokespecial 1, 3) := by decide +kernel
theorem d_X_init_4 : decode b_X_init 4 = .ok (.aload_n 0, 1) := by decide +kernel
theorem d_X_init_5 : decode b_X_init 5 = .ok (.iconst 1, 1) := by decide +kernel
theorem d_X_init_6 : decode b_X_init 6 = .ok (.bipush 8, 2) := by decide +kernel
theorem d_X_init_8 : decode b_X_init 8 = .ok (.iload_n 1, 1) := by decide +kernel
theorem d_X_init_9 : decode b_X_init 9 = .ok (.invokestatic 9, 3) := by decide +kernel
theorem d_X_init_12 : decode b_X_init 12 = .ok (.invokestatic 15, 3) := by decide +kernel
theorem d_X_init_15 : decode b_X_init 15 = .ok (.putfield 18, 3) := by decide +kernel
theorem d_X_init_18 : decode b_X_init 18 = .ok (.aload_n 0, 1) := by decide +kernel
theorem d_X_init_19 : decode b_X_init 19 = .ok (.new 22, 3) := by decide +kernel
theorem d_X_init_22 : decode b_X_init 22 = .ok (.dup, 1) := by decide +kernel
theorem d_X_init_23 : decode b_X_init 23 = .ok (.aload_n 0, 1) := by decide +kernel
theorem d_X_init_24 : decode b_X_init 24 = .ok (.getfield 18, 3) := by decide +kernel
theorem d_X_init_27 : decode b_X_init 27 = .ok (.invokespecial 24, 3) := by decide +kernel
theorem d_X_init_30 : decode b_X_init 30 = .ok (.putfield 27, 3) := by decide +kernel
theorem d_X_init_33 : decode b_X_init 33 = .ok (.aload_n 0, 1) := by decide +kernel
theorem d_X_init_34 : decode b_X_init 34 = .ok (.aload_n 0, 1) := by decide +kernel
theorem d_X_init_35 : decode b_X_init 35 = .ok (.getfield 18, 3) := by decide +kernel
theorem d_X_init_38 : decode b_X_init 38 = .ok (.invokestatic 31, 3) := by decide +kernel
theorem d_X_init_41 : decode b_X_init 41 = .ok (.putfield 35, 3) := by decide +kernel
theorem d_X_init_44 : decode b_X_init 44 = .ok (.aload_n 0, 1) := by decide +kernel
theorem d_X_init_45 : decode b_X_init 45 = .ok (.aload_n 0, 1) := by decide +kernel
theorem d_X_init_46 : decode b_X_init 46 = .ok (.getfield 35, 3) := by decide +kernel
theorem d_X_init_49 : decode b_X_init 49 = .ok (.putfield 38, 3) := by decide +kernel
theorem d_X_init_52 : decode b_X_init 52 = .ok (.aload_n 0, 1) := by decide +kernel
theorem d_X_init_53 : decode b_X_init 53 = .ok (.new 41, 3) := by decide +kernel
theorem d_X_init_56 : decode b_X_init 56 = .ok (.dup, 1) := by decide +kernel
theorem d_X_init_57 : decode b_X_init 57 = .ok (.aload_n 0, 1) := by decide +kernel
theorem d_X_init_58 : decode b_X_init 58 = .ok (.getfield 18, 3) := by decide +kernel
theorem d_X_init_61 : decode b_X_init 61 = .ok (.aload_n 0, 1) := by decide +kernel
theorem d_X_init_62 : decode b_X_init 62 = .ok (.getfield 27, 3) := by decide +kernel
theorem d_X_init_65 : decode b_X_init 65 = .ok (.invokespecial 43, 3) := by decide +kernel
theorem d_X_init_68 : decode b_X_init 68 = .ok (.putfield 46, 3) := by decide +kernel
theorem d_X_init_71 : decode b_X_init 71 = .ok (.return_, 1) := by decide +kernel
theorem kw_31 : (Cond.initialized "java/lang/Math" : Cond) ∈ bigW := bigW_of 31 (by decide +kernel) (by decide +kernel)
theorem kw_43 : (Cond.methodLink "TwoEndSearch" 1 ⟨"java/lang/Object", "<init>", "()V"⟩ : Cond) ∈ bigW := bigW_of 43 (by decide +kernel) (by decide +kernel)
theorem kw_46 : (Cond.methodLink "TwoEndSearch" 9 ⟨"java/lang/Math", "min", "(II)I"⟩ : Cond) ∈ bigW := bigW_of 46 (by decide +kernel) (by decide +kernel)
theorem kw_47 : (Cond.static ⟨"java/lang/Math", "min", "(II)I"⟩ : Cond) ∈ bigW := bigW_of 47 (by decide +kernel) (by decide +kernel)
theorem kw_48 : (Cond.code ⟨"java/lang/Math", "min", "(II)I"⟩ prog_8_method_69_code 2 (some .int) : Cond) ∈ bigW := bigW_of 48 (by decide +kernel) (by decide +kernel)
theorem kw_49 : (Cond.methodLink "TwoEndSearch" 15 ⟨"java/lang/Math", "max", "(II)I"⟩ : Cond) ∈ bigW := bigW_of 49 (by decide +kernel) (by decide +kernel)
theorem kw_50 : (Cond.static ⟨"java/lang/Math", "max", "(II)I"⟩ : Cond) ∈ bigW := bigW_of 50 (by decide +kernel) (by decide +kernel)
theorem kw_51 : (Cond.code ⟨"java/lang/Math", "max", "(II)I"⟩ prog_8_method_65_code 2 (some .int) : Cond) ∈ bigW := bigW_of 51 (by decide +kernel) (by decide +kernel)
theorem kw_52 : (Cond.classLink "TwoEndSearch" 22 "TwoEndSearch$Moves" : Cond) ∈ bigW := bigW_of 52 (by decide +kernel) (by decide +kernel)
theorem kw_53 : (Cond.instantiable "TwoEndSearch$Moves" 4 : Cond) ∈ bigW := bigW_of 53 (by decide +kernel) (by decide +kernel)
theorem kw_54 : (Cond.methodLink "TwoEndSearch" 24 ⟨"TwoEndSearch$Moves", "<init>", "(I)V"⟩ : Cond) ∈ bigW := bigW_of 54 (by decide +kernel) (by decide +kernel)
theorem kw_55 : (Cond.instanceMethod ⟨"TwoEndSearch$Moves", "<init>", "(I)V"⟩ : Cond) ∈ bigW := bigW_of 55 (by decide +kernel) (by decide +kernel)
theorem kw_56 : (Cond.code ⟨"TwoEndSearch$Moves", "<init>", "(I)V"⟩ prog_4_method_1_code 2 none : Cond) ∈ bigW := bigW_of 56 (by decide +kernel) (by decide +kernel)
theorem kw_80 : (Cond.classLink "TwoEndSearch" 41 "TwoEndSearch$Search" : Cond) ∈ bigW := bigW_of 80 (by decide +kernel) (by decide +kernel)
theorem kw_81 : (Cond.instantiable "TwoEndSearch$Search" 12 : Cond) ∈ bigW := bigW_of 81 (by decide +kernel) (by decide +kernel)
theorem kw_82 : (Cond.methodLink "TwoEndSearch" 43 ⟨"TwoEndSearch$Search", "<init>", "(ILTwoEndSearch$Moves;)V"⟩ : Cond) ∈ bigW := bigW_of 82 (by decide +kernel) (by decide +kernel)
theorem kw_83 : (Cond.instanceMethod ⟨"TwoEndSearch$Search", "<init>", "(ILTwoEndSearch$Moves;)V"⟩ : Cond) ∈ bigW := bigW_of 83 (by decide +kernel) (by decide +kernel)
theorem kw_84 : (Cond.code ⟨"TwoEndSearch$Search", "<init>", "(ILTwoEndSearch$Moves;)V"⟩ prog_5_method_1_code 4 none : Cond) ∈ bigW := bigW_of 84 (by decide +kernel) (by decide +kernel)
def po_X_init (q : wz_Q) (o : Nat) (x : Int32) : wz_G → Prop := fun w => ∃ (sg tu : Nat → Nat → Nat) (od : Nat → Nat), cx q o (pz_n x) 0 sg tu od (pz_first (pz_n x)) (pz_first (pz_n x)) none w
set_option maxHeartbeats 4000000 in
set_option maxRecDepth 100000 in
/-- the object is made -/
theorem c_X_init (l : Launch) (D : va_G) (q : wz_Q) (o : Nat) (x : Int32)  : wz_Mv l y_X_init ws_X_init ({ frames := 3, cells := 45, slots := 993077, locals := 69 } : Room) D q ([.ref o, .int x] : List Value) [[(o, .inr (4, [.int (nI 0), .null, .int (nI 0), .int (nI 0), .null]))]] (po_X_init q o x) 45 993077 := by
  intro sz9
  refine wz_enter (cc := b_X_init) (maxL := 2) (ret := none) (Qc := fun A => (va_Qv (po_X_init q o x) (wz_At D q A) A)) (by decide) (Nat.le_of_ble_eq_true rfl) ?_
  intro p e s m below meth c A ls C hP hD hS hl
  obtain ⟨hx, hb, hr, hml, hlocks, hown, hts, hN, hK, hA, hnm⟩ := C
  have hown : s.vm.findClass "TwoEndSearch" = some m.cls := hown
  have hl : lv_has ls 2 [(0, .ref o), (1, .int x)] := hl
  have hinit : meth.name = "<init>" := hnm
  have hmm := pz_n_mm x
  obtain ⟨hn1, hn⟩ := pz_n_in x
  obtain ⟨n, hnx⟩ : ∃ n, n = pz_n x := ⟨_, rfl⟩
  rw [← hnx] at hmm hn1 hn
  refine lv_aload_n hx hb d_X_init_0 rfl (lv_at hl 0 rfl) ?_
  refine W.objInit hx hb hown (hts _ kw_43) (hts _ kw_44) (hts _ kw_45) rfl (by rw [hml]; exact hl.1) rfl d_X_init_1 (Nat.le_of_ble_eq_true rfl) (Nat.le_of_ble_eq_true rfl) ?_
  refine W.eq (g2 := F0 m 4 ls []) rfl ?_
  refine lv_aload_n hx hb d_X_init_4 rfl (lv_at hl 0 rfl) ?_
  refine lv_iconst (v := nI 1) hx hb d_X_init_5 (by decide) ?_
  refine lv_bipush (v := nI 8) hx hb d_X_init_6 (by decide) ?_
  refine lv_iload_n hx hb d_X_init_8 rfl (lv_at hl 1 rfl) ?_
  refine va_mmin hx hb (by rw [hml, hl.1]) hown (hts _ kw_46) (hts _ kw_47) (hts _ kw_31) (hts _ kw_48) (Nat.le_of_ble_eq_true rfl) (Nat.le_of_ble_eq_true rfl) (Nat.le_of_ble_eq_true rfl) (Nat.le_of_ble_eq_true rfl) d_X_init_9 ?_
  refine va_mmax hx hb (by rw [hml, hl.1]) hown (hts _ kw_49) (hts _ kw_50) (hts _ kw_31) (hts _ kw_51) (Nat.le_of_ble_eq_true rfl) (Nat.le_of_ble_eq_true rfl) (Nat.le_of_ble_eq_true rfl) (Nat.le_of_ble_eq_true rfl) d_X_init_12 ?_
  refine wz_topi (y := nI n) hmm ?_
  refine wz_putF (gs' := [[(o, .inr (4, [.int (nI n), .null, .int (nI 0), .int (nI 0), .null]))]]) (v := .int (nI n)) (T := T_X) (N := 5) hx hb hts i_X t_X t_X_ok n_X hown hK hP hD hS 0 0 rfl rfl rfl 0 (by decide) (hts _ kw_210) rfl rfl hinit rfl (ty := t_X 0) (by decide +kernel) rfl rfl (Nat.le_of_ble_eq_true rfl) d_X_init_15 rfl (fun H locs hP hD hS => ?_)
  refine lv_aload_n hx hb d_X_init_18 rfl (lv_at hl 0 rfl) ?_
  refine wz_new (T := T_M) (N := 4) (ci := 0) (fs := [.int (nI 0), .null, .null, .int (nI 0)]) hx hb hts i_M t_M t_M_ok hown (hts _ kw_52) (hts _ kw_53) (hts _ kw_32) hK hP hD hS hA rfl (fun j hj => by rcases (show j = 0 ∨ j = 1 ∨ j = 2 ∨ j = 3 by omega) with rfl | rfl | rfl | rfl <;> rfl) (Nat.le_of_ble_eq_true rfl) (Nat.le_of_ble_eq_true rfl) d_X_init_19 (fun r_19 H hP hD hS => ?_)
  have hP : va_P D vwCl ([[(o, .inr (4, [.int (nI n), .null, .int (nI 0), .int (nI 0), .null]))], [(r_19, .inr (0, [.int (nI 0), .null, .null, .int (nI 0)]))]] : wz_G).flatten H := hP
  have hD : va_D A ([[(o, .inr (4, [.int (nI n), .null, .int (nI 0), .int (nI 0), .null]))], [(r_19, .inr (0, [.int (nI 0), .null, .null, .int (nI 0)]))]] : wz_G).flatten := hD
  refine lv_dup hx hb d_X_init_22 rfl ?_
  refine lv_aload_n hx hb d_X_init_23 rfl (lv_at hl 0 rfl) ?_
  refine wz_get (v := .int (nI n)) (T := T_X) (N := 5) hx hb hts i_X hown hK hP 0 0 rfl rfl rfl 0 (by decide) (hts _ kw_210) rfl rfl d_X_init_24 ?_
  have hQ := wz_split (n := 2) (gc := [[(r_19, .inr (0, [.int (nI 0), .null, .null, .int (nI 0)]))]]) (gr := [[(o, .inr (4, [.int (nI n), .null, .int (nI 0), .int (nI 0), .null]))]]) [1] [0] rfl (by decide) rfl rfl hP hD
  refine wz_callv (va_runI (As := [.int (nI n)]) (rest := [.ref r_19, .ref o]) ⟨hx, hb, hml, hown, hts⟩ (c_M_init l D q r_19 n _) (cwI 1 hts (wz_good kw_56) rfl rfl rfl (hts _ kw_32) (hts _ kw_54) (hts _ kw_55) rfl (by decide +kernel) ⟨Nat.le_of_ble_eq_true rfl, Nat.le_of_ble_eq_true rfl⟩) (wz_preS hN hK hQ wz_L_ok) rfl rfl hl.1 rfl (lv_room (Nat.le_of_ble_eq_true rfl)) d_X_init_27 ⟨Nat.le_of_ble_eq_true rfl, Nat.le_of_ble_eq_true rfl⟩) hQ hS hA (fun gx H locs hp hP hD hS => ?_)
  obtain ⟨am, rt, fo, M, ham, rfl⟩ := hp
  have hP9 := hP
  have hD9 := hD
  subst ham
  have hP : va_P D vwCl ([mv_W q am n 0 rt fo, wz_rows 12 rt (fun i9 => .inl (q.1, 8, .inl (M i9))), [(o, .inr (4, [.int (nI n), .null, .int (nI 0), .int (nI 0), .null]))]] : wz_G).flatten H := hP9
  have hD : va_D A ([mv_W q am n 0 rt fo, wz_rows 12 rt (fun i9 => .inl (q.1, 8, .inl (M i9))), [(o, .inr (4, [.int (nI n), .null, .int (nI 0), .int (nI 0), .null]))]] : wz_G).flatten := hD9
  refine wz_putF (gs' := [mv_W q am n 0 rt fo, wz_rows 12 rt (fun i9 => .inl (q.1, 8, .inl (M i9))), [(o, .inr (4, [.int (nI n), .ref (am 0), .int (nI 0), .int (nI 0), .null]))]]) (v := .ref (am 0)) (T := T_X) (N := 5) hx hb hts i_X t_X t_X_ok n_X hown hK hP hD hS 2 0 rfl rfl rfl 1 (by decide) (hts _ kw_211) rfl rfl hinit rfl (ty := t_X 1) (by decide +kernel) rfl rfl (Nat.le_of_ble_eq_true rfl) d_X_init_30 rfl (fun H locs hP hD hS => ?_)
  refine lv_aload_n hx hb d_X_init_33 rfl (lv_at hl 0 rfl) ?_
  refine lv_aload_n hx hb d_X_init_34 rfl (lv_at hl 0 rfl) ?_
  refine wz_get (v := .int (nI n)) (T := T_X) (N := 5) hx hb hts i_X hown hK hP 2 0 rfl rfl rfl 0 (by decide) (hts _ kw_210) rfl rfl d_X_init_35 ?_
  have hQ := wz_split (n := 3) (gc := []) (gr := [mv_W q am n 0 rt fo, wz_rows 12 rt (fun i9 => .inl (q.1, 8, .inl (M i9))), [(o, .inr (4, [.int (nI n), .ref (am 0), .int (nI 0), .int (nI 0), .null]))]]) [] [0, 1, 2] rfl (by decide) rfl rfl hP hD
  refine wz_calli (va_runS (As := [.int (nI n)]) (rest := [.ref o]) ⟨hx, hb, hml, hown, hts⟩ (c_X_firstState l D q n hn _) (va_cwS 1 hts (wz_goodS kw_77 kw_78 kw_30 kw_79) rfl rfl rfl (by decide +kernel) ⟨Nat.le_of_ble_eq_true rfl, Nat.le_of_ble_eq_true rfl⟩) (wz_preS hN hK hQ wz_L_ok) rfl rfl hl.1 rfl (lv_room (Nat.le_of_ble_eq_true rfl)) d_X_init_38 ⟨Nat.le_of_ble_eq_true rfl, Nat.le_of_ble_eq_true rfl⟩) hQ hS hA (fun v_38 gx H locs hp hP hD hS => ?_)
  obtain ⟨rfl, rfl⟩ := hp
  obtain ⟨hP, hD⟩ := wz_ord (n := 3) (gs' := [mv_W q am n 0 rt fo, wz_rows 12 rt (fun i9 => .inl (q.1, 8, .inl (M i9))), [(o, .inr (4, [.int (nI n), .ref (am 0), .int (nI 0), .int (nI 0), .null]))]]) [0, 1, 2] rfl (by decide) rfl hP hD
  refine wz_put (gs' := [mv_W q am n 0 rt fo, wz_rows 12 rt (fun i9 => .inl (q.1, 8, .inl (M i9))), [(o, .inr (4, [.int (nI n), .ref (am 0), .int (nI (pz_first n)), .int (nI 0), .null]))]]) (v := .int (nI (pz_first n))) (T := T_X) (N := 5) hx hb hts i_X t_X t_X_ok n_X hown hK hP hD hS 2 0 rfl rfl rfl 2 (by decide) (hts _ kw_212) rfl rfl (ty := t_X 2) (by decide +kernel) rfl rfl (Nat.le_of_ble_eq_true rfl) d_X_init_41 rfl (fun H locs hP hD hS => ?_)
  refine lv_aload_n hx hb d_X_init_44 rfl (lv_at hl 0 rfl) ?_
  refine lv_aload_n hx hb d_X_init_45 rfl (lv_at hl 0 rfl) ?_
  refine wz_get (v := .int (nI (pz_first n))) (T := T_X) (N := 5) hx hb hts i_X hown hK hP 2 0 rfl rfl rfl 2 (by decide) (hts _ kw_212) rfl rfl d_X_init_46 ?_
  refine wz_put (gs' := [mv_W q am n 0 rt fo, wz_rows 12 rt (fun i9 => .inl (q.1, 8, .inl (M i9))), [(o, .inr (4, [.int (nI n), .ref (am 0), .int (nI (pz_first n)), .int (nI (pz_first n)), .null]))]]) (v := .int (nI (pz_first n))) (T := T_X) (N := 5) hx hb hts i_X t_X t_X_ok n_X hown hK hP hD hS 2 0 rfl rfl rfl 3 (by decide) (hts _ kw_213) rfl rfl (ty := t_X 3) (by decide +kernel) rfl rfl (Nat.le_of_ble_eq_true rfl) d_X_init_49 rfl (fun H locs hP hD hS => ?_)
  refine lv_aload_n hx hb d_X_init_52 rfl (lv_at hl 0 rfl) ?_
  refine wz_new (T := T_S) (N := 12) (ci := 3) (fs := [.int (nI 0), .null, .null, .null, .null, .null, .null, .int (nI 0), .int (nI 0), .int (nI 0), .int (nI 0), .long 0]) hx hb hts i_S t_S t_S_ok hown (hts _ kw_80) (hts _ kw_81) (hts _ kw_33) hK hP hD hS hA rfl (fun j hj => by rcases (show j = 0 ∨ j = 1 ∨ j = 2 ∨ j = 3 ∨ j = 4 ∨ j = 5 ∨ j = 6 ∨ j = 7 ∨ j = 8 ∨ j = 9 ∨ j = 10 ∨ j = 11 by omega) with rfl | rfl | rfl | rfl | rfl | rfl | rfl | rfl | rfl | rfl | rfl | rfl <;> rfl) (Nat.le_of_ble_eq_true rfl) (Nat.le_of_ble_eq_true rfl) d_X_init_53 (fun r_53 H hP hD hS => ?_)
  have hP : va_P D vwCl ([mv_W q am n 0 rt fo, wz_rows 12 rt (fun i9 => .inl (q.1, 8, .inl (M i9))), [(o, .inr (4, [.int (nI n), .ref (am 0), .int (nI (pz_first n)), .int (nI (pz_first n)), .null]))], [(r_53, .inr (3, [.int (nI 0), .null, .null, .null, .null, .null, .null, .int (nI 0), .int (nI 0), .int (nI 0), .int (nI 0), .long 0]))]] : wz_G).flatten H := hP
  have hD : va_D A ([mv_W q am n 0 rt fo, wz_rows 12 rt (fun i9 => .inl (q.1, 8, .inl (M i9))), [(o, .inr (4, [.int (nI n), .ref (am 0), .int (nI (pz_first n)), .int (nI (pz_first n)), .null]))], [(r_53, .inr (3, [.int (nI 0), .null, .null, .null, .null, .null, .null, .int (nI 0), .int (nI 0), .int (nI 0), .int (nI 0), .long 0]))]] : wz_G).flatten := hD
  refine lv_dup hx hb d_X_init_56 rfl ?_
  refine lv_aload_n hx hb d_X_init_57 rfl (lv_at hl 0 rfl) ?_
  refine wz_get (v := .int (nI n)) (T := T_X) (N := 5) hx hb hts i_X hown hK hP 2 0 rfl rfl rfl 0 (by decide) (hts _ kw_210) rfl rfl d_X_init_58 ?_
  refine lv_aload_n hx hb d_X_init_61 rfl (lv_at hl 0 rfl) ?_
  refine wz_get (v := .ref (am 0)) (T := T_X) (N := 5) hx hb hts i_X hown hK hP 2 0 rfl rfl rfl 1 (by decide) (hts _ kw_211) rfl rfl d_X_init_62 ?_
  have hQ := wz_split (n := 4) (gc := [[(r_53, .inr (3, [.int (nI 0), .null, .null, .null, .null, .null, .null, .int (nI 0), .int (nI 0), .int (nI 0), .int (nI 0), .long 0]))]]) (gr := [mv_W q am n 0 rt fo, wz_rows 12 rt (fun i9 => .inl (q.1, 8, .inl (M i9))), [(o, .inr (4, [.int (nI n), .ref (am 0), .int (nI (pz_first n)), .int (nI (pz_first n)), .null]))]]) [3] [0, 1, 2] rfl (by decide) rfl rfl hP hD
  refine wz_callv (va_runI (As := [.int (nI n), .ref (am 0)]) (rest := [.ref r_53, .ref o]) ⟨hx, hb, hml, hown, hts⟩ (c_S_init l D q r_53 n (am 0) hn hn1 _) (cwI 2 hts (wz_good kw_84) rfl rfl rfl (hts _ kw_33) (hts _ kw_82) (hts _ kw_83) rfl (by decide +kernel) ⟨Nat.le_of_ble_eq_true rfl, Nat.le_of_ble_eq_true rfl⟩) (wz_preS hN hK hQ wz_L_ok) rfl rfl hl.1 rfl (lv_room (Nat.le_of_ble_eq_true rfl)) d_X_init_65 ⟨Nat.le_of_ble_eq_true rfl, Nat.le_of_ble_eq_true rfl⟩) hQ hS hA (fun gx H locs hp hP hD hS => ?_)
  obtain ⟨as9, ab, ac, ak, ag, rl, st, sl, L, b, f1, w1, e1, f2, w2, e2, f3, w3, e3, rw9, has, hb0, hb30, hM, hsl, hf, rfl⟩ := hp
  have hP9 := hP
  have hD9 := hD
  subst has
  have hP : va_P D vwCl ([se_W q as9 n (am 0) (ag 0) (ab 0) (ac 0) (ak 0) (pz_fact n) rw9 (nI 0) 0 0 (-1) 0, bl_W q ab (am 0) (ag 0) 0 (pz_fact n) f1 w1 e1 0 0 0 (nI 0) (nI 0), bl_W q ac (am 0) (ag 0) 0 (pz_fact n) f2 w2 e2 0 0 0 (nI 0) (nI 0), bl_W q ak (am 0) (ag 0) 6 (pz_fact n) f3 w3 e3 0 0 0 (nI 0) (nI 0), gq_W q ag (am 0) (pz_fact n) (2 ^ b) (32 - b) rl st sl 0, wz_rows 12 rl (fun i9 => .inl (q.1, pz_fact n, .inl (L i9))), mv_W q am n 0 rt fo, wz_rows 12 rt (fun i9 => .inl (q.1, 8, .inl (M i9))), [(o, .inr (4, [.int (nI n), .ref (am 0), .int (nI (pz_first n)), .int (nI (pz_first n)), .null]))]] : wz_G).flatten H := hP9
  have hD : va_D A ([se_W q as9 n (am 0) (ag 0) (ab 0) (ac 0) (ak 0) (pz_fact n) rw9 (nI 0) 0 0 (-1) 0, bl_W q ab (am 0) (ag 0) 0 (pz_fact n) f1 w1 e1 0 0 0 (nI 0) (nI 0), bl_W q ac (am 0) (ag 0) 0 (pz_fact n) f2 w2 e2 0 0 0 (nI 0) (nI 0), bl_W q ak (am 0) (ag 0) 6 (pz_fact n) f3 w3 e3 0 0 0 (nI 0) (nI 0), gq_W q ag (am 0) (pz_fact n) (2 ^ b) (32 - b) rl st sl 0, wz_rows 12 rl (fun i9 => .inl (q.1, pz_fact n, .inl (L i9))), mv_W q am n 0 rt fo, wz_rows 12 rt (fun i9 => .inl (q.1, 8, .inl (M i9))), [(o, .inr (4, [.int (nI n), .ref (am 0), .int (nI (pz_first n)), .int (nI (pz_first n)), .null]))]] : wz_G).flatten := hD9
  refine wz_putF (gs' := [se_W q as9 n (am 0) (ag 0) (ab 0) (ac 0) (ak 0) (pz_fact n) rw9 (nI 0) 0 0 (-1) 0, bl_W q ab (am 0) (ag 0) 0 (pz_fact n) f1 w1 e1 0 0 0 (nI 0) (nI 0), bl_W q ac (am 0) (ag 0) 0 (pz_fact n) f2 w2 e2 0 0 0 (nI 0) (nI 0), bl_W q ak (am 0) (ag 0) 6 (pz_fact n) f3 w3 e3 0 0 0 (nI 0) (nI 0), gq_W q ag (am 0) (pz_fact n) (2 ^ b) (32 - b) rl st sl 0, wz_rows 12 rl (fun i9 => .inl (q.1, pz_fact n, .inl (L i9))), mv_W q am n 0 rt fo, wz_rows 12 rt (fun i9 => .inl (q.1, 8, .inl (M i9))), [(o, .inr (4, [.int (nI n), .ref (am 0), .int (nI (pz_first n)), .int (nI (pz_first n)), .ref (as9 0)]))]]) (v := .ref (as9 0)) (T := T_X) (N := 5) hx hb hts i_X t_X t_X_ok n_X hown hK hP hD hS 8 0 rfl rfl rfl 4 (by decide) (hts _ kw_214) rfl rfl hinit rfl (ty := t_X 4) (by decide +kernel) rfl rfl (Nat.le_of_ble_eq_true rfl) d_X_init_68 rfl (fun H locs hP hD hS => ?_)
  obtain ⟨hP, hD⟩ := wz_ord (n := 9) (gs' := [[(o, .inr (4, [.int (nI n), .ref (am 0), .int (nI (pz_first n)), .int (nI (pz_first n)), .ref (as9 0)]))], se_W q as9 n (am 0) (ag 0) (ab 0) (ac 0) (ak 0) (pz_fact n) rw9 (nI 0) 0 0 (-1) 0, bl_W q ab (am 0) (ag 0) 0 (pz_fact n) f1 w1 e1 0 0 0 (nI 0) (nI 0), bl_W q ac (am 0) (ag 0) 0 (pz_fact n) f2 w2 e2 0 0 0 (nI 0) (nI 0), bl_W q ak (am 0) (ag 0) 6 (pz_fact n) f3 w3 e3 0 0 0 (nI 0) (nI 0), gq_W q ag (am 0) (pz_fact n) (2 ^ b) (32 - b) rl st sl 0, wz_rows 12 rl (fun i9 => .inl (q.1, pz_fact n, .inl (L i9))), mv_W q am n 0 rt fo, wz_rows 12 rt (fun i9 => .inl (q.1, 8, .inl (M i9)))]) [8, 0, 1, 2, 3, 4, 5, 6, 7] rfl (by decide) rfl hP hD
  have hP : va_P D vwCl ([xo_W q o n (am 0) (pz_first n) (pz_first n) (as9 0), se_W q as9 n (am 0) (ag 0) (ab 0) (ac 0) (ak 0) (pz_fact n) rw9 (nI 0) 0 0 (-1) 0, bl_W q ab (am 0) (ag 0) 0 (pz_fact n) f1 w1 e1 0 0 0 (nI 0) (nI 0), bl_W q ac (am 0) (ag 0) 0 (pz_fact n) f2 w2 e2 0 0 0 (nI 0) (nI 0), bl_W q ak (am 0) (ag 0) 6 (pz_fact n) f3 w3 e3 0 0 0 (nI 0) (nI 0), gq_W q ag (am 0) (pz_fact n) (2 ^ b) (32 - b) rl st sl (([] : List Nat).length), wz_rows 12 rl (fun i9 => .inl (q.1, pz_fact n, .inl (L i9))), mv_W q am n 0 rt fo, wz_rows 12 rt (fun i9 => .inl (q.1, 8, .inl (M i9)))] : wz_G).flatten H := hP
  have hD : va_D A ([xo_W q o n (am 0) (pz_first n) (pz_first n) (as9 0), se_W q as9 n (am 0) (ag 0) (ab 0) (ac 0) (ak 0) (pz_fact n) rw9 (nI 0) 0 0 (-1) 0, bl_W q ab (am 0) (ag 0) 0 (pz_fact n) f1 w1 e1 0 0 0 (nI 0) (nI 0), bl_W q ac (am 0) (ag 0) 0 (pz_fact n) f2 w2 e2 0 0 0 (nI 0) (nI 0), bl_W q ak (am 0) (ag 0) 6 (pz_fact n) f3 w3 e3 0 0 0 (nI 0) (nI 0), gq_W q ag (am 0) (pz_fact n) (2 ^ b) (32 - b) rl st sl (([] : List Nat).length), wz_rows 12 rl (fun i9 => .inl (q.1, pz_fact n, .inl (L i9))), mv_W q am n 0 rt fo, wz_rows 12 rt (fun i9 => .inl (q.1, 8, .inl (M i9)))] : wz_G).flatten := hD
  have hgr : gr_raw n b [] st sl := ⟨fun i x h => by simp at h, ⟨fun _ => 0, fun j _ => hsl j, pz_ht_nil (fun _ _ => rfl)⟩, Nat.zero_le _, fun x h => by simp at h, List.nodup_nil⟩
  have hw1 : bl_raw (pz_fact n) f1 e1 0 := ⟨Nat.zero_le _, fun i h => absurd h (by omega), fun i h => Or.inl (hf i h).1⟩
  have hw2 : bl_raw (pz_fact n) f2 e2 0 := ⟨Nat.zero_le _, fun i h => absurd h (by omega), fun i h => Or.inl (hf i h).2.1⟩
  have hw3 : bl_raw (pz_fact n) f3 e3 0 := ⟨Nat.zero_le _, fun i h => absurd h (by omega), fun i h => Or.inl (hf i h).2.2⟩
  exact wz_vret hx hb hr hlocks hK hP hD hS d_X_init_71 (by
    subst hnx
    exact ⟨fun _ _ => 0, fun _ _ => 0, fun _ => 0, cx_in ⟨⟨hn1, hn, Nat.zero_le _, pz_first_lt hn, pz_first_lt hn, hb0, hb30, hM⟩, (fun o ho => absurd ho (by omega)), hgr, ⟨hw1, hw2, hw3⟩, Or.inl rfl, ⟨rfl, rfl⟩⟩⟩)
