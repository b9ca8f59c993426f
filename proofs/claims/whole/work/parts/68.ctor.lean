theorem d_S_init_0 : decode b_S_init 0 = .ok (.aload_n 0, 1) := by decide +kernel
theorem d_S_init_1 : decode b_S_init 1 = .ok (.invokespecial 3, 3) := by decide +kernel
theorem d_S_init_4 : decode b_S_init 4 = .ok (.aload_n 0, 1) := by decide +kernel
theorem d_S_init_5 : decode b_S_init 5 = .ok (.iconst (-1), 1) := by decide +kernel
theorem d_S_init_6 : decode b_S_init 6 = .ok (.putfield 9, 3) := by decide +kernel
theorem d_S_init_9 : decode b_S_init 9 = .ok (.aload_n 0, 1) := by decide +kernel
theorem d_S_init_10 : decode b_S_init 10 = .ok (.iload_n 1, 1) := by decide +kernel
theorem d_S_init_11 : decode b_S_init 11 = .ok (.putfield 15, 3) := by decide +kernel
theorem d_S_init_14 : decode b_S_init 14 = .ok (.aload_n 0, 1) := by decide +kernel
theorem d_S_init_15 : decode b_S_init 15 = .ok (.aload_n 2, 1) := by decide +kernel
theorem d_S_init_16 : decode b_S_init 16 = .ok (.putfield 18, 3) := by decide +kernel
theorem d_S_init_19 : decode b_S_init 19 = .ok (.iload_n 1, 1) := by decide +kernel
theorem d_S_init_20 : decode b_S_init 20 = .ok (.invokestatic 22, 3) := by decide +kernel
theorem d_S_init_23 : decode b_S_init 23 = .ok (.istore_n 3, 1) := by decide +kernel
theorem d_S_init_24 : decode b_S_init 24 = .ok (.aload_n 0, 1) := by decide +kernel
theorem d_S_init_25 : decode b_S_init 25 = .ok (.new 26, 3) := by decide +kernel
theorem d_S_init_28 : decode b_S_init 28 = .ok (.dup, 1) := by decide +kernel
theorem d_S_init_29 : decode b_S_init 29 = .ok (.iload_n 3, 1) := by decide +kernel
theorem d_S_init_30 : decode b_S_init 30 = .ok (.aload_n 2, 1) := by decide +kernel
theorem d_S_init_31 : decode b_S_init 31 = .ok (.invokespecial 28, 3) := by decide +kernel
theorem d_S_init_34 : decode b_S_init 34 = .ok (.putfield 31, 3) := by decide +kernel
theorem d_S_init_37 : decode b_S_init 37 = .ok (.aload_n 0, 1) := by decide +kernel
theorem d_S_init_38 : decode b_S_init 38 = .ok (.new 35, 3) := by decide +kernel
theorem d_S_init_41 : decode b_S_init 41 = .ok (.dup, 1) := by decide +kernel
theorem d_S_init_42 : decode b_S_init 42 = .ok (.iload_n 3, 1) := by decide +kernel
theorem d_S_init_43 : decode b_S_init 43 = .ok (.aload_n 0, 1) := by decide +kernel
theorem d_S_init_44 : decode b_S_init 44 = .ok (.getfield 31, 3) := by decide +kernel
theorem d_S_init_47 : decode b_S_init 47 = .ok (.iconst 0, 1) := by decide +kernel
theorem d_S_init_48 : decode b_S_init 48 = .ok (.invokespecial 37, 3) := by decide +kernel
theorem d_S_init_51 : decode b_S_init 51 = .ok (.putfield 40, 3) := by decide +kernel
theorem d_S_init_54 : decode b_S_init 54 = .ok (.aload_n 0, 1) := by decide +kernel
theorem d_S_init_55 : decode b_S_init 55 = .ok (.new 35, 3) := by decide +kernel
theorem d_S_init_58 : decode b_S_init 58 = .ok (.dup, 1) := by decide +kernel
theorem d_S_init_59 : decode b_S_init 59 = .ok (.iload_n 3, 1) := by decide +kernel
theorem d_S_init_60 : decode b_S_init 60 = .ok (.aload_n 0, 1) := by decide +kernel
theorem d_S_init_61 : decode b_S_init 61 = .ok (.getfield 31, 3) := by decide +kernel
theorem d_S_init_64 : decode b_S_init 64 = .ok (.iconst 0, 1) := by decide +kernel
theorem d_S_init_65 : decode b_S_init 65 = .ok (.invokespecial 37, 3) := by decide +kernel
theorem d_S_init_68 : decode b_S_init 68 = .ok (.putfield 44, 3) := by decide +kernel
theorem d_S_init_71 : decode b_S_init 71 = .ok (.aload_n 0, 1) := by decide +kernel
theorem d_S_init_72 : decode b_S_init 72 = .ok (.new 35, 3) := by decide +kernel
theorem d_S_init_75 : decode b_S_init 75 = .ok (.dup, 1) := by decide +kernel
theorem d_S_init_76 : decode b_S_init 76 = .ok (.iload_n 3, 1) := by decide +kernel
theorem d_S_init_77 : decode b_S_init 77 = .ok (.aload_n 0, 1) := by decide +kernel
theorem d_S_init_78 : decode b_S_init 78 = .ok (.getfield 31, 3) := by decide +kernel
theorem d_S_init_81 : decode b_S_init 81 = .ok (.iconst 1, 1) := by decide +kernel
theorem d_S_init_82 : decode b_S_init 82 = .ok (.invokespecial 37, 3) := by decide +kernel
theorem d_S_init_85 : decode b_S_init 85 = .ok (.putfield 47, 3) := by decide +kernel
theorem d_S_init_88 : decode b_S_init 88 = .ok (.aload_n 0, 1) := by decide +kernel
theorem d_S_init_89 : decode b_S_init 89 = .ok (.iload_n 3, 1) := by decide +kernel
theorem d_S_init_90 : decode b_S_init 90 = .ok (.newarray .int, 2) := by decide +kernel
theorem d_S_init_92 : decode b_S_init 92 = .ok (.putfield 50, 3) := by decide +kernel
theorem d_S_init_95 : decode b_S_init 95 = .ok (.return_, 1) := by decide +kernel
theorem d_X_isMeasure_0 : decode b_X_isMeasure 0 = .ok (.iload_n 0, 1) := by decide +kernel
theorem d_X_isMeasure_1 : decode b_X_isMeasure 1 = .ok (.ifCond .eq 8, 3) := by decide +kernel
theorem d_X_isMeasure_4 : decode b_X_isMeasure 4 = .ok (.iload_n 0, 1) := by decide +kernel
theorem d_X_isMeasure_5 : decode b_X_isMeasure 5 = .ok (.iconst 1, 1) := by decide +kernel
theorem d_X_isMeasure_6 : decode b_X_isMeasure 6 = .ok (.if_icmp .ne 7, 3) := by decide +kernel
theorem d_X_isMeasure_9 : decode b_X_isMeasure 9 = .ok (.iconst 1, 1) := by decide +kernel
theorem d_X_isMeasure_10 : decode b_X_isMeasure 10 = .ok (.goto 4, 3) := by decide +kernel
theorem d_X_isMeasure_13 : decode b_X_isMeasure 13 = .ok (.iconst 0, 1) := by decide +kernel
theorem d_X_isMeasure_14 : decode b_X_isMeasure 14 = .ok (.ireturn, 1) := by decide +kernel
theorem kw_85 : (Cond.methodLink "TwoEndSearch$Search" 3 ⟨"java/lang/Object", "<init>", "()V"⟩ : Cond) ∈ bigW := bigW_of 85 (by decide +kernel) (by decide +kernel)
theorem kw_87 : (Cond.static ⟨"TwoEndSearch", "arrangements", "(I)I"⟩ : Cond) ∈ bigW := bigW_of 87 (by decide +kernel) (by decide +kernel)
theorem kw_88 : (Cond.code ⟨"TwoEndSearch", "arrangements", "(I)I"⟩ prog_1_method_20_code 3 (some .int) : Cond) ∈ bigW := bigW_of 88 (by decide +kernel) (by decide +kernel)
theorem kw_89 : (Cond.classLink "TwoEndSearch$Search" 26 "TwoEndSearch$Graph" : Cond) ∈ bigW := bigW_of 89 (by decide +kernel) (by decide +kernel)
theorem kw_90 : (Cond.instantiable "TwoEndSearch$Graph" 6 : Cond) ∈ bigW := bigW_of 90 (by decide +kernel) (by decide +kernel)
theorem kw_91 : (Cond.methodLink "TwoEndSearch$Search" 28 ⟨"TwoEndSearch$Graph", "<init>", "(ILTwoEndSearch$Moves;)V"⟩ : Cond) ∈ bigW := bigW_of 91 (by decide +kernel) (by decide +kernel)
theorem kw_92 : (Cond.instanceMethod ⟨"TwoEndSearch$Graph", "<init>", "(ILTwoEndSearch$Moves;)V"⟩ : Cond) ∈ bigW := bigW_of 92 (by decide +kernel) (by decide +kernel)
theorem kw_93 : (Cond.code ⟨"TwoEndSearch$Graph", "<init>", "(ILTwoEndSearch$Moves;)V"⟩ prog_3_method_1_code 4 none : Cond) ∈ bigW := bigW_of 93 (by decide +kernel) (by decide +kernel)
theorem kw_116 : (Cond.classLink "TwoEndSearch$Search" 35 "TwoEndSearch$Ball" : Cond) ∈ bigW := bigW_of 116 (by decide +kernel) (by decide +kernel)
theorem kw_117 : (Cond.instantiable "TwoEndSearch$Ball" 11 : Cond) ∈ bigW := bigW_of 117 (by decide +kernel) (by decide +kernel)
theorem kw_118 : (Cond.methodLink "TwoEndSearch$Search" 37 ⟨"TwoEndSearch$Ball", "<init>", "(ILTwoEndSearch$Graph;Z)V"⟩ : Cond) ∈ bigW := bigW_of 118 (by decide +kernel) (by decide +kernel)
theorem kw_119 : (Cond.instanceMethod ⟨"TwoEndSearch$Ball", "<init>", "(ILTwoEndSearch$Graph;Z)V"⟩ : Cond) ∈ bigW := bigW_of 119 (by decide +kernel) (by decide +kernel)
theorem kw_120 : (Cond.code ⟨"TwoEndSearch$Ball", "<init>", "(ILTwoEndSearch$Graph;Z)V"⟩ prog_2_method_1_code 4 none : Cond) ∈ bigW := bigW_of 120 (by decide +kernel) (by decide +kernel)
def po_S_init (q : wz_Q) (o n mr : Nat) : wz_G → Prop := fun w => ∃ (as9 ab ac ak ag rl : Nat → Nat) (st sl : Nat → Int32) (L : Nat → Nat → Int32) (b : Nat) (f1 : Nat → Int32) (w1 : Nat → Int64) (e1 f2 : Nat → Int32) (w2 : Nat → Int64) (e2 f3 : Nat → Int32) (w3 : Nat → Int64) (e3 rw : Nat → Int32), as9 0 = o ∧ 0 < b ∧ b ≤ 30 ∧ pz_fact n < 2 ^ b ∧ (∀ j, sl j = 0) ∧ (∀ i, i < pz_fact n → f1 i = -1 ∧ f2 i = -1 ∧ f3 i = -1) ∧ w = [se_W q as9 n mr (ag 0) (ab 0) (ac 0) (ak 0) (pz_fact n) rw (nI 0) 0 0 (-1) 0, bl_W q ab mr (ag 0) 0 (pz_fact n) f1 w1 e1 0 0 0 (nI 0) (nI 0), bl_W q ac mr (ag 0) 0 (pz_fact n) f2 w2 e2 0 0 0 (nI 0) (nI 0), bl_W q ak mr (ag 0) 6 (pz_fact n) f3 w3 e3 0 0 0 (nI 0) (nI 0), gq_W q ag mr (pz_fact n) (2 ^ b) (32 - b) rl st sl 0, wz_rows 12 rl (fun i9 => .inl (q.1, pz_fact n, .inl (L i9)))]
set_option maxHeartbeats 4000000 in
set_option maxRecDepth 100000 in
/-- nothing searched -/
theorem c_S_init (l : Launch) (D : va_G) (q : wz_Q) (o n mr : Nat) (hn : n ≤ 8) (hn1 : 1 ≤ n) : wz_Mv l y_S_init ws_S_init ({ frames := 2, cells := 29, slots := 992947, locals := 46 } : Room) D q ([.ref o, .int (nI n), .ref mr] : List Value) [[(o, .inr (3, [.int (nI 0), .null, .null, .null, .null, .null, .null, .int (nI 0), .int (nI 0), .int (nI 0), .int (nI 0), .long 0]))]] (po_S_init q o n mr) 29 992947 := by
  intro sz9
  refine wz_enter (cc := b_S_init) (maxL := 4) (ret := none) (Qc := fun A => (va_Qv (po_S_init q o n mr) (wz_At D q A) A)) (by decide) (Nat.le_of_ble_eq_true rfl) ?_
  intro p e s m below meth c A ls C hP hD hS hl
  obtain ⟨hx, hb, hr, hml, hlocks, hown, hts, hN, hK, hA, hnm⟩ := C
  have hown : s.vm.findClass "TwoEndSearch$Search" = some m.cls := hown
  have hl : lv_has ls 4 [(0, .ref o), (1, .int (nI n)), (2, .ref mr)] := hl
  have hinit : meth.name = "<init>" := hnm
  have hfl := pz_fact_le hn
  have hfp := pz_fact_pos n
  refine lv_aload_n hx hb d_S_init_0 rfl (lv_at hl 0 rfl) ?_
  refine W.objInit hx hb hown (hts _ kw_85) (hts _ kw_44) (hts _ kw_45) rfl (by rw [hml]; exact hl.1) rfl d_S_init_1 (Nat.le_of_ble_eq_true rfl) (Nat.le_of_ble_eq_true rfl) ?_
  refine W.eq (g2 := F0 m 4 ls []) rfl ?_
  refine lv_aload_n hx hb d_S_init_4 rfl (lv_at hl 0 rfl) ?_
  refine lv_iconst (v := (-1)) hx hb d_S_init_5 (by decide) ?_
  refine wz_put (gs' := [[(o, .inr (3, [.int (nI 0), .null, .null, .null, .null, .null, .null, .int (nI 0), .int (nI 0), .int (nI 0), .int (-1), .long 0]))]]) (v := .int (-1)) (T := T_S) (N := 12) hx hb hts i_S t_S t_S_ok n_S hown hK hP hD hS 0 0 rfl rfl rfl 10 (by decide) (hts _ kw_181) rfl rfl (ty := t_S 10) (by decide +kernel) rfl rfl (Nat.le_of_ble_eq_true rfl) d_S_init_6 rfl (fun H locs hP hD hS => ?_)
  refine lv_aload_n hx hb d_S_init_9 rfl (lv_at hl 0 rfl) ?_
  refine lv_iload_n hx hb d_S_init_10 rfl (lv_at hl 1 rfl) ?_
  refine wz_putF (gs' := [[(o, .inr (3, [.int (nI n), .null, .null, .null, .null, .null, .null, .int (nI 0), .int (nI 0), .int (nI 0), .int (-1), .long 0]))]]) (v := .int (nI n)) (T := T_S) (N := 12) hx hb hts i_S t_S t_S_ok n_S hown hK hP hD hS 0 0 rfl rfl rfl 0 (by decide) (hts _ kw_169) rfl rfl hinit rfl (ty := t_S 0) (by decide +kernel) rfl rfl (Nat.le_of_ble_eq_true rfl) d_S_init_11 rfl (fun H locs hP hD hS => ?_)
  refine lv_aload_n hx hb d_S_init_14 rfl (lv_at hl 0 rfl) ?_
  refine lv_aload_n hx hb d_S_init_15 rfl (lv_at hl 2 rfl) ?_
  refine wz_putF (gs' := [[(o, .inr (3, [.int (nI n), .ref mr, .null, .null, .null, .null, .null, .int (nI 0), .int (nI 0), .int (nI 0), .int (-1), .long 0]))]]) (v := .ref mr) (T := T_S) (N := 12) hx hb hts i_S t_S t_S_ok n_S hown hK hP hD hS 0 0 rfl rfl rfl 1 (by decide) (hts _ kw_170) rfl rfl hinit rfl (ty := t_S 1) (by decide +kernel) rfl rfl (Nat.le_of_ble_eq_true rfl) d_S_init_16 rfl (fun H locs hP hD hS => ?_)
  refine lv_iload_n hx hb d_S_init_19 rfl (lv_at hl 1 rfl) ?_
  have hQ := wz_split (n := 1) (gc := []) (gr := [[(o, .inr (3, [.int (nI n), .ref mr, .null, .null, .null, .null, .null, .int (nI 0), .int (nI 0), .int (nI 0), .int (-1), .long 0]))]]) [] [0] rfl (by decide) rfl rfl hP hD
  refine wz_calli (va_runSN (As := [.int (nI n)]) (rest := []) ⟨hx, hb, hml, hown, hts⟩ (c_X_arrangements l D q n hn hn1 _) ⟨va_cnB 1 hts (wz_good kw_88) rfl rfl rfl (hN.1 _ (List.mem_of_getElem? (i := 3) rfl)) (hts _ kw_30) (by decide +kernel) ⟨Nat.le_of_ble_eq_true rfl, Nat.le_of_ble_eq_true rfl⟩, hts _ kw_87, trivial⟩ (wz_preS hN hK hQ wz_L_ok) rfl rfl hl.1 rfl (lv_room (Nat.le_of_ble_eq_true rfl)) d_S_init_20 ⟨Nat.le_of_ble_eq_true rfl, Nat.le_of_ble_eq_true rfl⟩) hQ hS hA (fun v_20 gx H locs hp hP hD hS => ?_)
  obtain ⟨rfl, rfl⟩ := hp
  obtain ⟨hP, hD⟩ := wz_ord (n := 1) (gs' := [[(o, .inr (3, [.int (nI n), .ref mr, .null, .null, .null, .null, .null, .int (nI 0), .int (nI 0), .int (nI 0), .int (-1), .long 0]))]]) [0] rfl (by decide) rfl hP hD
  refine lv_istore_n (lv' := [(3, .int (nI (pz_fact n))), (0, .ref o), (1, .int (nI n)), (2, .ref mr)]) hx hb d_S_init_23 rfl hl (by decide) rfl (fun ls hl => ?_)
  refine lv_aload_n hx hb d_S_init_24 rfl (lv_at hl 1 rfl) ?_
  refine wz_new (T := T_G) (N := 6) (ci := 1) (fs := [.null, .null, .null, .int (nI 0), .null, .int (nI 0)]) hx hb hts i_G t_G t_G_ok hown (hts _ kw_89) (hts _ kw_90) (hts _ kw_34) hK hP hD hS hA rfl (fun j hj => by rcases (show j = 0 ∨ j = 1 ∨ j = 2 ∨ j = 3 ∨ j = 4 ∨ j = 5 by omega) with rfl | rfl | rfl | rfl | rfl | rfl <;> rfl) (Nat.le_of_ble_eq_true rfl) (Nat.le_of_ble_eq_true rfl) d_S_init_25 (fun r_25 H hP hD hS => ?_)
  have hP : va_P D vwCl ([[(o, .inr (3, [.int (nI n), .ref mr, .null, .null, .null, .null, .null, .int (nI 0), .int (nI 0), .int (nI 0), .int (-1), .long 0]))], [(r_25, .inr (1, [.null, .null, .null, .int (nI 0), .null, .int (nI 0)]))]] : wz_G).flatten H := hP
  have hD : va_D A ([[(o, .inr (3, [.int (nI n), .ref mr, .null, .null, .null, .null, .null, .int (nI 0), .int (nI 0), .int (nI 0), .int (-1), .long 0]))], [(r_25, .inr (1, [.null, .null, .null, .int (nI 0), .null, .int (nI 0)]))]] : wz_G).flatten := hD
  refine lv_dup hx hb d_S_init_28 rfl ?_
  refine lv_iload_n hx hb d_S_init_29 rfl (lv_at hl 0 rfl) ?_
  refine lv_aload_n hx hb d_S_init_30 rfl (lv_at hl 3 rfl) ?_
  have hQ := wz_split (n := 2) (gc := [[(r_25, .inr (1, [.null, .null, .null, .int (nI 0), .null, .int (nI 0)]))]]) (gr := [[(o, .inr (3, [.int (nI n), .ref mr, .null, .null, .null, .null, .null, .int (nI 0), .int (nI 0), .int (nI 0), .int (-1), .long 0]))]]) [1] [0] rfl (by decide) rfl rfl hP hD
  refine wz_callv (va_runI (As := [.int (nI (pz_fact n)), .ref mr]) (rest := [.ref r_25, .ref o]) ⟨hx, hb, hml, hown, hts⟩ (c_G_init l D q r_25 (pz_fact n) mr hfl hfp _) (cwI 2 hts (wz_good kw_93) rfl rfl rfl (hts _ kw_34) (hts _ kw_91) (hts _ kw_92) rfl (by decide +kernel) ⟨Nat.le_of_ble_eq_true rfl, Nat.le_of_ble_eq_true rfl⟩) (wz_preS hN hK hQ wz_L_ok) rfl rfl hl.1 rfl (lv_room (Nat.le_of_ble_eq_true rfl)) d_S_init_31 ⟨Nat.le_of_ble_eq_true rfl, Nat.le_of_ble_eq_true rfl⟩) hQ hS hA (fun gx H locs hp hP hD hS => ?_)
  obtain ⟨ag, rl, st, sl, L, b, hag, hb0, hb30, hM, hsl, rfl⟩ := hp
  have hP9 := hP
  have hD9 := hD
  subst hag
  have hP : va_P D vwCl ([gq_W q ag mr (pz_fact n) (2 ^ b) (32 - b) rl st sl 0, wz_rows 12 rl (fun i9 => .inl (q.1, pz_fact n, .inl (L i9))), [(o, .inr (3, [.int (nI n), .ref mr, .null, .null, .null, .null, .null, .int (nI 0), .int (nI 0), .int (nI 0), .int (-1), .long 0]))]] : wz_G).flatten H := hP9
  have hD : va_D A ([gq_W q ag mr (pz_fact n) (2 ^ b) (32 - b) rl st sl 0, wz_rows 12 rl (fun i9 => .inl (q.1, pz_fact n, .inl (L i9))), [(o, .inr (3, [.int (nI n), .ref mr, .null, .null, .null, .null, .null, .int (nI 0), .int (nI 0), .int (nI 0), .int (-1), .long 0]))]] : wz_G).flatten := hD9
  refine wz_putF (gs' := [gq_W q ag mr (pz_fact n) (2 ^ b) (32 - b) rl st sl 0, wz_rows 12 rl (fun i9 => .inl (q.1, pz_fact n, .inl (L i9))), [(o, .inr (3, [.int (nI n), .ref mr, .ref (ag 0), .null, .null, .null, .null, .int (nI 0), .int (nI 0), .int (nI 0), .int (-1), .long 0]))]]) (v := .ref (ag 0)) (T := T_S) (N := 12) hx hb hts i_S t_S t_S_ok n_S hown hK hP hD hS 2 0 rfl rfl rfl 2 (by decide) (hts _ kw_171) rfl rfl hinit rfl (ty := t_S 2) (by decide +kernel) rfl rfl (Nat.le_of_ble_eq_true rfl) d_S_init_34 rfl (fun H locs hP hD hS => ?_)
  refine lv_aload_n hx hb d_S_init_37 rfl (lv_at hl 1 rfl) ?_
  refine wz_new (T := T_B) (N := 11) (ci := 2) (fs := [.null, .null, .int (nI 0), .null, .null, .null, .int (nI 0), .int (nI 0), .int (nI 0), .int (nI 0), .int (nI 0)]) hx hb hts i_B t_B t_B_ok hown (hts _ kw_116) (hts _ kw_117) (hts _ kw_35) hK hP hD hS hA rfl (fun j hj => by rcases (show j = 0 ∨ j = 1 ∨ j = 2 ∨ j = 3 ∨ j = 4 ∨ j = 5 ∨ j = 6 ∨ j = 7 ∨ j = 8 ∨ j = 9 ∨ j = 10 by omega) with rfl | rfl | rfl | rfl | rfl | rfl | rfl | rfl | rfl | rfl | rfl <;> rfl) (Nat.le_of_ble_eq_true rfl) (Nat.le_of_ble_eq_true rfl) d_S_init_38 (fun r_38 H hP hD hS => ?_)
  have hP : va_P D vwCl ([gq_W q ag mr (pz_fact n) (2 ^ b) (32 - b) rl st sl 0, wz_rows 12 rl (fun i9 => .inl (q.1, pz_fact n, .inl (L i9))), [(o, .inr (3, [.int (nI n), .ref mr, .ref (ag 0), .null, .null, .null, .null, .int (nI 0), .int (nI 0), .int (nI 0), .int (-1), .long 0]))], [(r_38, .inr (2, [.null, .null, .int (nI 0), .null, .null, .null, .int (nI 0), .int (nI 0), .int (nI 0), .int (nI 0), .int (nI 0)]))]] : wz_G).flatten H := hP
  have hD : va_D A ([gq_W q ag mr (pz_fact n) (2 ^ b) (32 - b) rl st sl 0, wz_rows 12 rl (fun i9 => .inl (q.1, pz_fact n, .inl (L i9))), [(o, .inr (3, [.int (nI n), .ref mr, .ref (ag 0), .null, .null, .null, .null, .int (nI 0), .int (nI 0), .int (nI 0), .int (-1), .long 0]))], [(r_38, .inr (2, [.null, .null, .int (nI 0), .null, .null, .null, .int (nI 0), .int (nI 0), .int (nI 0), .int (nI 0), .int (nI 0)]))]] : wz_G).flatten := hD
  refine lv_dup hx hb d_S_init_41 rfl ?_
  refine lv_iload_n hx hb d_S_init_42 rfl (lv_at hl 0 rfl) ?_
  refine lv_aload_n hx hb d_S_init_43 rfl (lv_at hl 1 rfl) ?_
  refine wz_get (v := .ref (ag 0)) (T := T_S) (N := 12) hx hb hts i_S hown hK hP 2 0 rfl rfl rfl 2 (by decide) (hts _ kw_171) rfl rfl d_S_init_44 ?_
  refine lv_iconst (v := nI 0) hx hb d_S_init_47 (by decide) ?_
  have hQ := wz_split (n := 4) (gc := [[(r_38, .inr (2, [.null, .null, .int (nI 0), .null, .null, .null, .int (nI 0), .int (nI 0), .int (nI 0), .int (nI 0), .int (nI 0)]))], gq_W q ag mr (pz_fact n) (2 ^ b) (32 - b) rl st sl 0]) (gr := [wz_rows 12 rl (fun i9 => .inl (q.1, pz_fact n, .inl (L i9))), [(o, .inr (3, [.int (nI n), .ref mr, .ref (ag 0), .null, .null, .null, .null, .int (nI 0), .int (nI 0), .int (nI 0), .int (-1), .long 0]))]]) [3, 0] [1, 2] rfl (by decide) rfl rfl hP hD
  refine wz_callv (va_runI (As := [.int (nI (pz_fact n)), .ref (ag 0), .int (nI 0)]) (rest := [.ref r_38, .ref o]) ⟨hx, hb, hml, hown, hts⟩ (c_B_init0 l D q r_38 (pz_fact n) ag mr (2 ^ b) (32 - b) rl st sl 0 hfl _) (cwI 3 hts (wz_good kw_120) rfl rfl rfl (hts _ kw_35) (hts _ kw_118) (hts _ kw_119) rfl (by decide +kernel) ⟨Nat.le_of_ble_eq_true rfl, Nat.le_of_ble_eq_true rfl⟩) (wz_preS hN hK hQ wz_L_ok) rfl rfl hl.1 rfl (lv_room (Nat.le_of_ble_eq_true rfl)) d_S_init_48 ⟨Nat.le_of_ble_eq_true rfl, Nat.le_of_ble_eq_true rfl⟩) hQ hS hA (fun gx H locs hp hP hD hS => ?_)
  obtain ⟨ab, f1, w1, e1, h_ab, hf1, rfl⟩ := hp
  have hP9 := hP
  have hD9 := hD
  subst h_ab
  have hP : va_P D vwCl ([bl_W q ab mr (ag 0) 0 (pz_fact n) f1 w1 e1 0 0 0 (nI 0) (nI 0), gq_W q ag mr (pz_fact n) (2 ^ b) (32 - b) rl st sl 0, wz_rows 12 rl (fun i9 => .inl (q.1, pz_fact n, .inl (L i9))), [(o, .inr (3, [.int (nI n), .ref mr, .ref (ag 0), .null, .null, .null, .null, .int (nI 0), .int (nI 0), .int (nI 0), .int (-1), .long 0]))]] : wz_G).flatten H := hP9
  have hD : va_D A ([bl_W q ab mr (ag 0) 0 (pz_fact n) f1 w1 e1 0 0 0 (nI 0) (nI 0), gq_W q ag mr (pz_fact n) (2 ^ b) (32 - b) rl st sl 0, wz_rows 12 rl (fun i9 => .inl (q.1, pz_fact n, .inl (L i9))), [(o, .inr (3, [.int (nI n), .ref mr, .ref (ag 0), .null, .null, .null, .null, .int (nI 0), .int (nI 0), .int (nI 0), .int (-1), .long 0]))]] : wz_G).flatten := hD9
  refine wz_putF (gs' := [bl_W q ab mr (ag 0) 0 (pz_fact n) f1 w1 e1 0 0 0 (nI 0) (nI 0), gq_W q ag mr (pz_fact n) (2 ^ b) (32 - b) rl st sl 0, wz_rows 12 rl (fun i9 => .inl (q.1, pz_fact n, .inl (L i9))), [(o, .inr (3, [.int (nI n), .ref mr, .ref (ag 0), .ref (ab 0), .null, .null, .null, .int (nI 0), .int (nI 0), .int (nI 0), .int (-1), .long 0]))]]) (v := .ref (ab 0)) (T := T_S) (N := 12) hx hb hts i_S t_S t_S_ok n_S hown hK hP hD hS 3 0 rfl rfl rfl 3 (by decide) (hts _ kw_172) rfl rfl hinit rfl (ty := t_S 3) (by decide +kernel) rfl rfl (Nat.le_of_ble_eq_true rfl) d_S_init_51 rfl (fun H locs hP hD hS => ?_)
  refine lv_aload_n hx hb d_S_init_54 rfl (lv_at hl 1 rfl) ?_
  refine wz_new (T := T_B) (N := 11) (ci := 2) (fs := [.null, .null, .int (nI 0), .null, .null, .null, .int (nI 0), .int (nI 0), .int (nI 0), .int (nI 0), .int (nI 0)]) hx hb hts i_B t_B t_B_ok hown (hts _ kw_116) (hts _ kw_117) (hts _ kw_35) hK hP hD hS hA rfl (fun j hj => by rcases (show j = 0 ∨ j = 1 ∨ j = 2 ∨ j = 3 ∨ j = 4 ∨ j = 5 ∨ j = 6 ∨ j = 7 ∨ j = 8 ∨ j = 9 ∨ j = 10 by omega) with rfl | rfl | rfl | rfl | rfl | rfl | rfl | rfl | rfl | rfl | rfl <;> rfl) (Nat.le_of_ble_eq_true rfl) (Nat.le_of_ble_eq_true rfl) d_S_init_55 (fun r_55 H hP hD hS => ?_)
  have hP : va_P D vwCl ([bl_W q ab mr (ag 0) 0 (pz_fact n) f1 w1 e1 0 0 0 (nI 0) (nI 0), gq_W q ag mr (pz_fact n) (2 ^ b) (32 - b) rl st sl 0, wz_rows 12 rl (fun i9 => .inl (q.1, pz_fact n, .inl (L i9))), [(o, .inr (3, [.int (nI n), .ref mr, .ref (ag 0), .ref (ab 0), .null, .null, .null, .int (nI 0), .int (nI 0), .int (nI 0), .int (-1), .long 0]))], [(r_55, .inr (2, [.null, .null, .int (nI 0), .null, .null, .null, .int (nI 0), .int (nI 0), .int (nI 0), .int (nI 0), .int (nI 0)]))]] : wz_G).flatten H := hP
  have hD : va_D A ([bl_W q ab mr (ag 0) 0 (pz_fact n) f1 w1 e1 0 0 0 (nI 0) (nI 0), gq_W q ag mr (pz_fact n) (2 ^ b) (32 - b) rl st sl 0, wz_rows 12 rl (fun i9 => .inl (q.1, pz_fact n, .inl (L i9))), [(o, .inr (3, [.int (nI n), .ref mr, .ref (ag 0), .ref (ab 0), .null, .null, .null, .int (nI 0), .int (nI 0), .int (nI 0), .int (-1), .long 0]))], [(r_55, .inr (2, [.null, .null, .int (nI 0), .null, .null, .null, .int (nI 0), .int (nI 0), .int (nI 0), .int (nI 0), .int (nI 0)]))]] : wz_G).flatten := hD
  refine lv_dup hx hb d_S_init_58 rfl ?_
  refine lv_iload_n hx hb d_S_init_59 rfl (lv_at hl 0 rfl) ?_
  refine lv_aload_n hx hb d_S_init_60 rfl (lv_at hl 1 rfl) ?_
  refine wz_get (v := .ref (ag 0)) (T := T_S) (N := 12) hx hb hts i_S hown hK hP 3 0 rfl rfl rfl 2 (by decide) (hts _ kw_171) rfl rfl d_S_init_61 ?_
  refine lv_iconst (v := nI 0) hx hb d_S_init_64 (by decide) ?_
  have hQ := wz_split (n := 5) (gc := [[(r_55, .inr (2, [.null, .null, .int (nI 0), .null, .null, .null, .int (nI 0), .int (nI 0), .int (nI 0), .int (nI 0), .int (nI 0)]))], gq_W q ag mr (pz_fact n) (2 ^ b) (32 - b) rl st sl 0]) (gr := [bl_W q ab mr (ag 0) 0 (pz_fact n) f1 w1 e1 0 0 0 (nI 0) (nI 0), wz_rows 12 rl (fun i9 => .inl (q.1, pz_fact n, .inl (L i9))), [(o, .inr (3, [.int (nI n), .ref mr, .ref (ag 0), .ref (ab 0), .null, .null, .null, .int (nI 0), .int (nI 0), .int (nI 0), .int (-1), .long 0]))]]) [4, 1] [0, 2, 3] rfl (by decide) rfl rfl hP hD
  refine wz_callv (va_runI (As := [.int (nI (pz_fact n)), .ref (ag 0), .int (nI 0)]) (rest := [.ref r_55, .ref o]) ⟨hx, hb, hml, hown, hts⟩ (c_B_init0 l D q r_55 (pz_fact n) ag mr (2 ^ b) (32 - b) rl st sl 0 hfl _) (cwI 3 hts (wz_good kw_120) rfl rfl rfl (hts _ kw_35) (hts _ kw_118) (hts _ kw_119) rfl (by decide +kernel) ⟨Nat.le_of_ble_eq_true rfl, Nat.le_of_ble_eq_true rfl⟩) (wz_preS hN hK hQ wz_L_ok) rfl rfl hl.1 rfl (lv_room (Nat.le_of_ble_eq_true rfl)) d_S_init_65 ⟨Nat.le_of_ble_eq_true rfl, Nat.le_of_ble_eq_true rfl⟩) hQ hS hA (fun gx H locs hp hP hD hS => ?_)
  obtain ⟨ac, f2, w2, e2, h_ac, hf2, rfl⟩ := hp
  have hP9 := hP
  have hD9 := hD
  subst h_ac
  have hP : va_P D vwCl ([bl_W q ac mr (ag 0) 0 (pz_fact n) f2 w2 e2 0 0 0 (nI 0) (nI 0), gq_W q ag mr (pz_fact n) (2 ^ b) (32 - b) rl st sl 0, bl_W q ab mr (ag 0) 0 (pz_fact n) f1 w1 e1 0 0 0 (nI 0) (nI 0), wz_rows 12 rl (fun i9 => .inl (q.1, pz_fact n, .inl (L i9))), [(o, .inr (3, [.int (nI n), .ref mr, .ref (ag 0), .ref (ab 0), .null, .null, .null, .int (nI 0), .int (nI 0), .int (nI 0), .int (-1), .long 0]))]] : wz_G).flatten H := hP9
  have hD : va_D A ([bl_W q ac mr (ag 0) 0 (pz_fact n) f2 w2 e2 0 0 0 (nI 0) (nI 0), gq_W q ag mr (pz_fact n) (2 ^ b) (32 - b) rl st sl 0, bl_W q ab mr (ag 0) 0 (pz_fact n) f1 w1 e1 0 0 0 (nI 0) (nI 0), wz_rows 12 rl (fun i9 => .inl (q.1, pz_fact n, .inl (L i9))), [(o, .inr (3, [.int (nI n), .ref mr, .ref (ag 0), .ref (ab 0), .null, .null, .null, .int (nI 0), .int (nI 0), .int (nI 0), .int (-1), .long 0]))]] : wz_G).flatten := hD9
  refine wz_putF (gs' := [bl_W q ac mr (ag 0) 0 (pz_fact n) f2 w2 e2 0 0 0 (nI 0) (nI 0), gq_W q ag mr (pz_fact n) (2 ^ b) (32 - b) rl st sl 0, bl_W q ab mr (ag 0) 0 (pz_fact n) f1 w1 e1 0 0 0 (nI 0) (nI 0), wz_rows 12 rl (fun i9 => .inl (q.1, pz_fact n, .inl (L i9))), [(o, .inr (3, [.int (nI n), .ref mr, .ref (ag 0), .ref (ab 0), .ref (ac 0), .null, .null, .int (nI 0), .int (nI 0), .int (nI 0), .int (-1), .long 0]))]]) (v := .ref (ac 0)) (T := T_S) (N := 12) hx hb hts i_S t_S t_S_ok n_S hown hK hP hD hS 4 0 rfl rfl rfl 4 (by decide) (hts _ kw_173) rfl rfl hinit rfl (ty := t_S 4) (by decide +kernel) rfl rfl (Nat.le_of_ble_eq_true rfl) d_S_init_68 rfl (fun H locs hP hD hS => ?_)
  refine lv_aload_n hx hb d_S_init_71 rfl (lv_at hl 1 rfl) ?_
  refine wz_new (T := T_B) (N := 11) (ci := 2) (fs := [.null, .null, .int (nI 0), .null, .null, .null, .int (nI 0), .int (nI 0), .int (nI 0), .int (nI 0), .int (nI 0)]) hx hb hts i_B t_B t_B_ok hown (hts _ kw_116) (hts _ kw_117) (hts _ kw_35) hK hP hD hS hA rfl (fun j hj => by rcases (show j = 0 ∨ j = 1 ∨ j = 2 ∨ j = 3 ∨ j = 4 ∨ j = 5 ∨ j = 6 ∨ j = 7 ∨ j = 8 ∨ j = 9 ∨ j = 10 by omega) with rfl | rfl | rfl | rfl | rfl | rfl | rfl | rfl | rfl | rfl | rfl <;> rfl) (Nat.le_of_ble_eq_true rfl) (Nat.le_of_ble_eq_true rfl) d_S_init_72 (fun r_72 H hP hD hS => ?_)
  have hP : va_P D vwCl ([bl_W q ac mr (ag 0) 0 (pz_fact n) f2 w2 e2 0 0 0 (nI 0) (nI 0), gq_W q ag mr (pz_fact n) (2 ^ b) (32 - b) rl st sl 0, bl_W q ab mr (ag 0) 0 (pz_fact n) f1 w1 e1 0 0 0 (nI 0) (nI 0), wz_rows 12 rl (fun i9 => .inl (q.1, pz_fact n, .inl (L i9))), [(o, .inr (3, [.int (nI n), .ref mr, .ref (ag 0), .ref (ab 0), .ref (ac 0), .null, .null, .int (nI 0), .int (nI 0), .int (nI 0), .int (-1), .long 0]))], [(r_72, .inr (2, [.null, .null, .int (nI 0), .null, .null, .null, .int (nI 0), .int (nI 0), .int (nI 0), .int (nI 0), .int (nI 0)]))]] : wz_G).flatten H := hP
  have hD : va_D A ([bl_W q ac mr (ag 0) 0 (pz_fact n) f2 w2 e2 0 0 0 (nI 0) (nI 0), gq_W q ag mr (pz_fact n) (2 ^ b) (32 - b) rl st sl 0, bl_W q ab mr (ag 0) 0 (pz_fact n) f1 w1 e1 0 0 0 (nI 0) (nI 0), wz_rows 12 rl (fun i9 => .inl (q.1, pz_fact n, .inl (L i9))), [(o, .inr (3, [.int (nI n), .ref mr, .ref (ag 0), .ref (ab 0), .ref (ac 0), .null, .null, .int (nI 0), .int (nI 0), .int (nI 0), .int (-1), .long 0]))], [(r_72, .inr (2, [.null, .null, .int (nI 0), .null, .null, .null, .int (nI 0), .int (nI 0), .int (nI 0), .int (nI 0), .int (nI 0)]))]] : wz_G).flatten := hD
  refine lv_dup hx hb d_S_init_75 rfl ?_
  refine lv_iload_n hx hb d_S_init_76 rfl (lv_at hl 0 rfl) ?_
  refine lv_aload_n hx hb d_S_init_77 rfl (lv_at hl 1 rfl) ?_
  refine wz_get (v := .ref (ag 0)) (T := T_S) (N := 12) hx hb hts i_S hown hK hP 4 0 rfl rfl rfl 2 (by decide) (hts _ kw_171) rfl rfl d_S_init_78 ?_
  refine lv_iconst (v := nI 1) hx hb d_S_init_81 (by decide) ?_
  have hQ := wz_split (n := 6) (gc := [[(r_72, .inr (2, [.null, .null, .int (nI 0), .null, .null, .null, .int (nI 0), .int (nI 0), .int (nI 0), .int (nI 0), .int (nI 0)]))], gq_W q ag mr (pz_fact n) (2 ^ b) (32 - b) rl st sl 0]) (gr := [bl_W q ac mr (ag 0) 0 (pz_fact n) f2 w2 e2 0 0 0 (nI 0) (nI 0), bl_W q ab mr (ag 0) 0 (pz_fact n) f1 w1 e1 0 0 0 (nI 0) (nI 0), wz_rows 12 rl (fun i9 => .inl (q.1, pz_fact n, .inl (L i9))), [(o, .inr (3, [.int (nI n), .ref mr, .ref (ag 0), .ref (ab 0), .ref (ac 0), .null, .null, .int (nI 0), .int (nI 0), .int (nI 0), .int (-1), .long 0]))]]) [5, 1] [0, 2, 3, 4] rfl (by decide) rfl rfl hP hD
  refine wz_callv (va_runI (As := [.int (nI (pz_fact n)), .ref (ag 0), .int (nI 1)]) (rest := [.ref r_72, .ref o]) ⟨hx, hb, hml, hown, hts⟩ (c_B_init1 l D q r_72 (pz_fact n) ag mr (2 ^ b) (32 - b) rl st sl 0 hfl _) (cwI 3 hts (wz_good kw_120) rfl rfl rfl (hts _ kw_35) (hts _ kw_118) (hts _ kw_119) rfl (by decide +kernel) ⟨Nat.le_of_ble_eq_true rfl, Nat.le_of_ble_eq_true rfl⟩) (wz_preS hN hK hQ wz_L_ok) rfl rfl hl.1 rfl (lv_room (Nat.le_of_ble_eq_true rfl)) d_S_init_82 ⟨Nat.le_of_ble_eq_true rfl, Nat.le_of_ble_eq_true rfl⟩) hQ hS hA (fun gx H locs hp hP hD hS => ?_)
  obtain ⟨ak, f3, w3, e3, h_ak, hf3, rfl⟩ := hp
  have hP9 := hP
  have hD9 := hD
  subst h_ak
  have hP : va_P D vwCl ([bl_W q ak mr (ag 0) 6 (pz_fact n) f3 w3 e3 0 0 0 (nI 0) (nI 0), gq_W q ag mr (pz_fact n) (2 ^ b) (32 - b) rl st sl 0, bl_W q ac mr (ag 0) 0 (pz_fact n) f2 w2 e2 0 0 0 (nI 0) (nI 0), bl_W q ab mr (ag 0) 0 (pz_fact n) f1 w1 e1 0 0 0 (nI 0) (nI 0), wz_rows 12 rl (fun i9 => .inl (q.1, pz_fact n, .inl (L i9))), [(o, .inr (3, [.int (nI n), .ref mr, .ref (ag 0), .ref (ab 0), .ref (ac 0), .null, .null, .int (nI 0), .int (nI 0), .int (nI 0), .int (-1), .long 0]))]] : wz_G).flatten H := hP9
  have hD : va_D A ([bl_W q ak mr (ag 0) 6 (pz_fact n) f3 w3 e3 0 0 0 (nI 0) (nI 0), gq_W q ag mr (pz_fact n) (2 ^ b) (32 - b) rl st sl 0, bl_W q ac mr (ag 0) 0 (pz_fact n) f2 w2 e2 0 0 0 (nI 0) (nI 0), bl_W q ab mr (ag 0) 0 (pz_fact n) f1 w1 e1 0 0 0 (nI 0) (nI 0), wz_rows 12 rl (fun i9 => .inl (q.1, pz_fact n, .inl (L i9))), [(o, .inr (3, [.int (nI n), .ref mr, .ref (ag 0), .ref (ab 0), .ref (ac 0), .null, .null, .int (nI 0), .int (nI 0), .int (nI 0), .int (-1), .long 0]))]] : wz_G).flatten := hD9
  refine wz_putF (gs' := [bl_W q ak mr (ag 0) 6 (pz_fact n) f3 w3 e3 0 0 0 (nI 0) (nI 0), gq_W q ag mr (pz_fact n) (2 ^ b) (32 - b) rl st sl 0, bl_W q ac mr (ag 0) 0 (pz_fact n) f2 w2 e2 0 0 0 (nI 0) (nI 0), bl_W q ab mr (ag 0) 0 (pz_fact n) f1 w1 e1 0 0 0 (nI 0) (nI 0), wz_rows 12 rl (fun i9 => .inl (q.1, pz_fact n, .inl (L i9))), [(o, .inr (3, [.int (nI n), .ref mr, .ref (ag 0), .ref (ab 0), .ref (ac 0), .ref (ak 0), .null, .int (nI 0), .int (nI 0), .int (nI 0), .int (-1), .long 0]))]]) (v := .ref (ak 0)) (T := T_S) (N := 12) hx hb hts i_S t_S t_S_ok n_S hown hK hP hD hS 5 0 rfl rfl rfl 5 (by decide) (hts _ kw_174) rfl rfl hinit rfl (ty := t_S 5) (by decide +kernel) rfl rfl (Nat.le_of_ble_eq_true rfl) d_S_init_85 rfl (fun H locs hP hD hS => ?_)
  refine lv_aload_n hx hb d_S_init_88 rfl (lv_at hl 1 rfl) ?_
  refine lv_iload_n hx hb d_S_init_89 rfl (lv_at hl 0 rfl) ?_
  refine wz_newi (n := (pz_fact n)) hx hb (hts _ kw_76) hK hP hD hS hA (by omega) (Nat.le_of_ble_eq_true rfl) (by show _ ≤ 992947; omega) d_S_init_90 (fun r_90 H hP hD hS => ?_)
  have hP : va_P D vwCl ([bl_W q ak mr (ag 0) 6 (pz_fact n) f3 w3 e3 0 0 0 (nI 0) (nI 0), gq_W q ag mr (pz_fact n) (2 ^ b) (32 - b) rl st sl 0, bl_W q ac mr (ag 0) 0 (pz_fact n) f2 w2 e2 0 0 0 (nI 0) (nI 0), bl_W q ab mr (ag 0) 0 (pz_fact n) f1 w1 e1 0 0 0 (nI 0) (nI 0), wz_rows 12 rl (fun i9 => .inl (q.1, pz_fact n, .inl (L i9))), [(o, .inr (3, [.int (nI n), .ref mr, .ref (ag 0), .ref (ab 0), .ref (ac 0), .ref (ak 0), .null, .int (nI 0), .int (nI 0), .int (nI 0), .int (-1), .long 0]))], [(r_90, .inl (q.1, (pz_fact n), .inl (fun _ => 0)))]] : wz_G).flatten H := hP
  have hD : va_D A ([bl_W q ak mr (ag 0) 6 (pz_fact n) f3 w3 e3 0 0 0 (nI 0) (nI 0), gq_W q ag mr (pz_fact n) (2 ^ b) (32 - b) rl st sl 0, bl_W q ac mr (ag 0) 0 (pz_fact n) f2 w2 e2 0 0 0 (nI 0) (nI 0), bl_W q ab mr (ag 0) 0 (pz_fact n) f1 w1 e1 0 0 0 (nI 0) (nI 0), wz_rows 12 rl (fun i9 => .inl (q.1, pz_fact n, .inl (L i9))), [(o, .inr (3, [.int (nI n), .ref mr, .ref (ag 0), .ref (ab 0), .ref (ac 0), .ref (ak 0), .null, .int (nI 0), .int (nI 0), .int (nI 0), .int (-1), .long 0]))], [(r_90, .inl (q.1, (pz_fact n), .inl (fun _ => 0)))]] : wz_G).flatten := hD
  refine wz_putF (gs' := [bl_W q ak mr (ag 0) 6 (pz_fact n) f3 w3 e3 0 0 0 (nI 0) (nI 0), gq_W q ag mr (pz_fact n) (2 ^ b) (32 - b) rl st sl 0, bl_W q ac mr (ag 0) 0 (pz_fact n) f2 w2 e2 0 0 0 (nI 0) (nI 0), bl_W q ab mr (ag 0) 0 (pz_fact n) f1 w1 e1 0 0 0 (nI 0) (nI 0), wz_rows 12 rl (fun i9 => .inl (q.1, pz_fact n, .inl (L i9))), [(o, .inr (3, [.int (nI n), .ref mr, .ref (ag 0), .ref (ab 0), .ref (ac 0), .ref (ak 0), .ref r_90, .int (nI 0), .int (nI 0), .int (nI 0), .int (-1), .long 0]))], [(r_90, .inl (q.1, (pz_fact n), .inl (fun _ => 0)))]]) (v := .ref r_90) (T := T_S) (N := 12) hx hb hts i_S t_S t_S_ok n_S hown hK hP hD hS 5 0 rfl rfl rfl 6 (by decide) (hts _ kw_175) rfl rfl hinit rfl (ty := t_S 6) (by decide +kernel) rfl rfl (Nat.le_of_ble_eq_true rfl) d_S_init_92 rfl (fun H locs hP hD hS => ?_)
  obtain ⟨as9, h_0, h_1⟩ : ∃ as9 : Nat → Nat, as9 0 = o ∧ as9 1 = r_90 := ⟨fun i => ([o, r_90] : List Nat).getD i 0, rfl, rfl⟩
  subst h_0
  subst h_1
  obtain ⟨hP, hD⟩ := wz_ord (n := 7) (gs' := [[(as9 0, .inr (3, [.int (nI n), .ref mr, .ref (ag 0), .ref (ab 0), .ref (ac 0), .ref (ak 0), .ref (as9 1), .int (nI 0), .int (nI 0), .int (nI 0), .int (-1), .long 0]))], [(as9 1, .inl (q.1, (pz_fact n), .inl (fun _ => 0)))], bl_W q ab mr (ag 0) 0 (pz_fact n) f1 w1 e1 0 0 0 (nI 0) (nI 0), bl_W q ac mr (ag 0) 0 (pz_fact n) f2 w2 e2 0 0 0 (nI 0) (nI 0), bl_W q ak mr (ag 0) 6 (pz_fact n) f3 w3 e3 0 0 0 (nI 0) (nI 0), gq_W q ag mr (pz_fact n) (2 ^ b) (32 - b) rl st sl 0, wz_rows 12 rl (fun i9 => .inl (q.1, pz_fact n, .inl (L i9)))]) [5, 6, 3, 2, 0, 1, 4] rfl (by decide) rfl hP hD
  have hP : va_P D vwCl ([se_W q as9 n mr (ag 0) (ab 0) (ac 0) (ak 0) (pz_fact n) (fun _ => 0) (nI 0) 0 0 (-1) 0, bl_W q ab mr (ag 0) 0 (pz_fact n) f1 w1 e1 0 0 0 (nI 0) (nI 0), bl_W q ac mr (ag 0) 0 (pz_fact n) f2 w2 e2 0 0 0 (nI 0) (nI 0), bl_W q ak mr (ag 0) 6 (pz_fact n) f3 w3 e3 0 0 0 (nI 0) (nI 0), gq_W q ag mr (pz_fact n) (2 ^ b) (32 - b) rl st sl 0, wz_rows 12 rl (fun i9 => .inl (q.1, pz_fact n, .inl (L i9)))] : wz_G).flatten H := hP
  have hD : va_D A ([se_W q as9 n mr (ag 0) (ab 0) (ac 0) (ak 0) (pz_fact n) (fun _ => 0) (nI 0) 0 0 (-1) 0, bl_W q ab mr (ag 0) 0 (pz_fact n) f1 w1 e1 0 0 0 (nI 0) (nI 0), bl_W q ac mr (ag 0) 0 (pz_fact n) f2 w2 e2 0 0 0 (nI 0) (nI 0), bl_W q ak mr (ag 0) 6 (pz_fact n) f3 w3 e3 0 0 0 (nI 0) (nI 0), gq_W q ag mr (pz_fact n) (2 ^ b) (32 - b) rl st sl 0, wz_rows 12 rl (fun i9 => .inl (q.1, pz_fact n, .inl (L i9)))] : wz_G).flatten := hD
  refine W.widen (k := 29) (n := 992947) (Nat.le_of_ble_eq_true rfl) (by omega) ?_
  exact wz_vret hx hb hr hlocks hK hP hD hS d_S_init_95 ⟨as9, ab, ac, ak, ag, rl, st, sl, L, b, f1, w1, e1, f2, w2, e2, f3, w3, e3, _, rfl, hb0, hb30, hM, hsl, fun i hi => ⟨hf1 i hi, hf2 i hi, hf3 i hi⟩, rfl⟩
def po_X_isMeasure (q : wz_Q) (x : Int32) : Int32 → wz_G → Prop := fun v w => w = [] ∧ wz_bit v (x = nI 0 ∨ x = nI 1)
set_option maxHeartbeats 4000000 in
set_option maxRecDepth 100000 in
/-- a measure -/
theorem c_X_isMeasure (l : Launch) (D : va_G) (q : wz_Q) (x : Int32)  : wz_Mi l y_X_isMeasure ws_X_isMeasure ({ frames := 0, cells := 0, slots := 0, locals := 0 } : Room) D q ([.int x] : List Value) [] (po_X_isMeasure q x) 0 0 := by
  intro sz9
  refine wz_enter (cc := b_X_isMeasure) (maxL := 1) (ret := (some .boolean)) (Qc := fun A => (va_Qi (po_X_isMeasure q x) (wz_At D q A) A)) (by decide) (Nat.le_of_ble_eq_true rfl) ?_
  intro p e s m below meth c A ls C hP hD hS hl
  obtain ⟨hx, hb, hr, hml, hlocks, hown, hts, hN, hK, hA, hnm⟩ := C
  have hown : s.vm.findClass "TwoEndSearch" = some m.cls := hown
  have hl : lv_has ls 1 [(0, .int x)] := hl
  refine lv_iload_n hx hb d_X_isMeasure_0 rfl (lv_at hl 0 rfl) ?_
  refine lv_if_eq (tgt := 9) hx hb d_X_isMeasure_1 (by decide) (fun hc => ?_) (fun hc => ?_)
  · skip
    refine lv_iconst (v := nI 1) hx hb d_X_isMeasure_9 (by decide) ?_
    refine lv_goto (tgt := 14) hx hb d_X_isMeasure_10 (by decide) ?_
    exact wz_zret hx hb hr hlocks hK hP hD hS d_X_isMeasure_14 (by first | exact Or.inl rfl | exact Or.inr rfl) ⟨rfl, Or.inl ⟨rfl, Or.inl hc⟩⟩
  · skip
    refine lv_iload_n hx hb d_X_isMeasure_4 rfl (lv_at hl 0 rfl) ?_
    refine lv_iconst (v := nI 1) hx hb d_X_isMeasure_5 (by decide) ?_
    refine lv_icmp_ne (tgt := 13) hx hb d_X_isMeasure_6 (by decide) (fun hc2 => ?_) (fun hc2 => ?_)
    · skip
      refine lv_iconst (v := nI 0) hx hb d_X_isMeasure_13 (by decide) ?_
      exact wz_zret hx hb hr hlocks hK hP hD hS d_X_isMeasure_14 (by first | exact Or.inl rfl | exact Or.inr rfl) ⟨rfl, Or.inr ⟨rfl, fun q => q.elim hc hc2⟩⟩
    · skip
      refine lv_iconst (v := nI 1) hx hb d_X_isMeasure_9 (by decide) ?_
      refine lv_goto (tgt := 14) hx hb d_X_isMeasure_10 (by decide) ?_
      exact wz_zret hx hb hr hlocks hK hP hD hS d_X_isMeasure_14 (by first | exact Or.inl rfl | exact Or.inr rfl) ⟨rfl, Or.inl ⟨rfl, Or.inr hc2⟩⟩
