def zq_W (q : wz_Q) (a : Nat → Nat) (r1 : Nat → Int32) (r2 : Nat → Int32) : va_W := [(a 11, .inl (q.1, 8, .inl r1)), (a 12, .inl (q.1, 8, .inl r2))]
theorem d_Z_init_0 : decode b_Z_init 0 = .ok (.aload_n 0, 1) := by decide +kernel
theorem d_Z_init_1 : decode b_Z_init 1 = .ok (.invokespecial 1, 3) := by decide +kernel
theorem d_Z_init_4 : decode b_Z_init 4 = .ok (.aload_n 0, 1) := by decide +kernel
theorem d_Z_init_5 : decode b_Z_init 5 = .ok (.bipush 48, 2) := by decide +kernel
theorem d_Z_init_7 : decode b_Z_init 7 = .ok (.newarray .int, 2) := by decide +kernel
theorem d_Z_init_9 : decode b_Z_init 9 = .ok (.putfield 7, 3) := by decide +kernel
theorem d_Z_init_12 : decode b_Z_init 12 = .ok (.aload_n 0, 1) := by decide +kernel
theorem d_Z_init_13 : decode b_Z_init 13 = .ok (.bipush 6, 2) := by decide +kernel
theorem d_Z_init_15 : decode b_Z_init 15 = .ok (.newarray .int, 2) := by decide +kernel
theorem d_Z_init_17 : decode b_Z_init 17 = .ok (.putfield 13, 3) := by decide +kernel
theorem d_Z_init_20 : decode b_Z_init 20 = .ok (.aload_n 0, 1) := by decide +kernel
theorem d_Z_init_21 : decode b_Z_init 21 = .ok (.bipush 8, 2) := by decide +kernel
theorem d_Z_init_23 : decode b_Z_init 23 = .ok (.newarray .int, 2) := by decide +kernel
theorem d_Z_init_25 : decode b_Z_init 25 = .ok (.putfield 16, 3) := by decide +kernel
theorem d_Z_init_28 : decode b_Z_init 28 = .ok (.aload_n 0, 1) := by decide +kernel
theorem d_Z_init_29 : decode b_Z_init 29 = .ok (.bipush 8, 2) := by decide +kernel
theorem d_Z_init_31 : decode b_Z_init 31 = .ok (.newarray .int, 2) := by decide +kernel
theorem d_Z_init_33 : decode b_Z_init 33 = .ok (.putfield 19, 3) := by decide +kernel
theorem d_Z_init_36 : decode b_Z_init 36 = .ok (.aload_n 0, 1) := by decide +kernel
theorem d_Z_init_37 : decode b_Z_init 37 = .ok (.iconst (-1), 1) := by decide +kernel
theorem d_Z_init_38 : decode b_Z_init 38 = .ok (.putfield 22, 3) := by decide +kernel
theorem d_Z_init_41 : decode b_Z_init 41 = .ok (.aload_n 0, 1) := by decide +kernel
theorem d_Z_init_42 : decode b_Z_init 42 = .ok (.ldc 26, 2) := by decide +kernel
theorem d_Z_init_44 : decode b_Z_init 44 = .ok (.newarray .int, 2) := by decide +kernel
theorem d_Z_init_46 : decode b_Z_init 46 = .ok (.putfield 27, 3) := by decide +kernel
theorem d_Z_init_49 : decode b_Z_init 49 = .ok (.aload_n 0, 1) := by decide +kernel
theorem d_Z_init_50 : decode b_Z_init 50 = .ok (.ldc 26, 2) := by decide +kernel
theorem d_Z_init_52 : decode b_Z_init 52 = .ok (.newarray .int, 2) := by decide +kernel
theorem d_Z_init_54 : decode b_Z_init 54 = .ok (.putfield 30, 3) := by decide +kernel
theorem d_Z_init_57 : decode b_Z_init 57 = .ok (.aload_n 0, 1) := by decide +kernel
theorem d_Z_init_58 : decode b_Z_init 58 = .ok (.ldc 26, 2) := by decide +kernel
theorem d_Z_init_60 : decode b_Z_init 60 = .ok (.newarray .long, 2) := by decide +kernel
theorem d_Z_init_62 : decode b_Z_init 62 = .ok (.putfield 33, 3) := by decide +kernel
theorem d_Z_init_65 : decode b_Z_init 65 = .ok (.aload_n 0, 1) := by decide +kernel
theorem d_Z_init_66 : decode b_Z_init 66 = .ok (.ldc 37, 2) := by decide +kernel
theorem d_Z_init_68 : decode b_Z_init 68 = .ok (.newarray .int, 2) := by decide +kernel
theorem d_Z_init_70 : decode b_Z_init 70 = .ok (.putfield 38, 3) := by decide +kernel
theorem d_Z_init_73 : decode b_Z_init 73 = .ok (.aload_n 0, 1) := by decide +kernel
theorem d_Z_init_74 : decode b_Z_init 74 = .ok (.ldc 26, 2) := by decide +kernel
theorem d_Z_init_76 : decode b_Z_init 76 = .ok (.newarray .int, 2) := by decide +kernel
theorem d_Z_init_78 : decode b_Z_init 78 = .ok (.putfield 41, 3) := by decide +kernel
theorem d_Z_init_81 : decode b_Z_init 81 = .ok (.aload_n 0, 1) := by decide +kernel
theorem d_Z_init_82 : decode b_Z_init 82 = .ok (.ldc 26, 2) := by decide +kernel
theorem d_Z_init_84 : decode b_Z_init 84 = .ok (.newarray .int, 2) := by decide +kernel
theorem d_Z_init_86 : decode b_Z_init 86 = .ok (.putfield 44, 3) := by decide +kernel
theorem d_Z_init_89 : decode b_Z_init 89 = .ok (.aload_n 0, 1) := by decide +kernel
theorem d_Z_init_90 : decode b_Z_init 90 = .ok (.bipush 8, 2) := by decide +kernel
theorem d_Z_init_92 : decode b_Z_init 92 = .ok (.newarray .int, 2) := by decide +kernel
theorem d_Z_init_94 : decode b_Z_init 94 = .ok (.putfield 47, 3) := by decide +kernel
theorem d_Z_init_97 : decode b_Z_init 97 = .ok (.aload_n 0, 1) := by decide +kernel
theorem d_Z_init_98 : decode b_Z_init 98 = .ok (.bipush 8, 2) := by decide +kernel
theorem d_Z_init_100 : decode b_Z_init 100 = .ok (.newarray .int, 2) := by decide +kernel
theorem d_Z_init_102 : decode b_Z_init 102 = .ok (.putfield 50, 3) := by decide +kernel
theorem d_Z_init_105 : decode b_Z_init 105 = .ok (.aload_n 0, 1) := by decide +kernel
theorem d_Z_init_106 : decode b_Z_init 106 = .ok (.iload_n 1, 1) := by decide +kernel
theorem d_Z_init_107 : decode b_Z_init 107 = .ok (.iconst 1, 1) := by decide +kernel
theorem d_Z_init_108 : decode b_Z_init 108 = .ok (.if_icmp .ge 7, 3) := by decide +kernel
theorem d_Z_init_111 : decode b_Z_init 111 = .ok (.iconst 1, 1) := by decide +kernel
theorem d_Z_init_112 : decode b_Z_init 112 = .ok (.goto 15, 3) := by decide +kernel
theorem d_Z_init_115 : decode b_Z_init 115 = .ok (.iload_n 1, 1) := by decide +kernel
theorem d_Z_init_116 : decode b_Z_init 116 = .ok (.bipush 8, 2) := by decide +kernel
theorem d_Z_init_118 : decode b_Z_init 118 = .ok (.if_icmp .le 8, 3) := by decide +kernel
theorem d_Z_init_121 : decode b_Z_init 121 = .ok (.bipush 8, 2) := by decide +kernel
theorem d_Z_init_123 : decode b_Z_init 123 = .ok (.goto 4, 3) := by decide +kernel
theorem d_Z_init_126 : decode b_Z_init 126 = .ok (.iload_n 1, 1) := by decide +kernel
theorem d_Z_init_127 : decode b_Z_init 127 = .ok (.putfield 53, 3) := by decide +kernel
theorem d_Z_init_130 : decode b_Z_init 130 = .ok (.aload_n 0, 1) := by decide +kernel
theorem d_Z_init_131 : decode b_Z_init 131 = .ok (.invokevirtual 56, 3) := by decide +kernel
theorem d_Z_init_134 : decode b_Z_init 134 = .ok (.return_, 1) := by decide +kernel
theorem kw_44 : (Cond.instanceMethod ⟨"java/lang/Object", "<init>", "()V"⟩ : Cond) ∈ bigW := bigW_of 44 (by decide +kernel) (by decide +kernel)
theorem kw_45 : (Cond.code ⟨"java/lang/Object", "<init>", "()V"⟩ object_method_1_code 1 none : Cond) ∈ bigW := bigW_of 45 (by decide +kernel) (by decide +kernel)
theorem kw_76 : (Cond.arrayClass .int : Cond) ∈ bigW := bigW_of 76 (by decide +kernel) (by decide +kernel)
theorem kw_168 : (Cond.arrayClass .long : Cond) ∈ bigW := bigW_of 168 (by decide +kernel) (by decide +kernel)
theorem kw_454 : (Cond.methodLink "TwoEndSearchModel" 1 ⟨"java/lang/Object", "<init>", "()V"⟩ : Cond) ∈ bigW := bigW_of 454 (by decide +kernel) (by decide +kernel)
theorem kw_455 : (Cond.constant "TwoEndSearchModel" 26 40320 : Cond) ∈ bigW := bigW_of 455 (by decide +kernel) (by decide +kernel)
theorem kw_484 : (Cond.fieldLink "TwoEndSearchModel" 47 "TwoEndSearchModel" "row" "[I" : Cond) ∈ bigW := bigW_of 484 (by decide +kernel) (by decide +kernel)
theorem kw_485 : (Cond.fieldLink "TwoEndSearchModel" 50 "TwoEndSearchModel" "next" "[I" : Cond) ∈ bigW := bigW_of 485 (by decide +kernel) (by decide +kernel)
def po_Z_init (q : wz_Q) (o : Nat) (x : Int32) : wz_G → Prop := fun w => ∃ (az : Nat → Nat) (to fo sb gb st sp : Nat → Int32) (wy : Nat → Int64) (se ms ts r1 r2 : Nat → Int32), az 0 = o ∧ w = [zo_W q az (nI 0) (pz_n x) 0 (-1) (nI 0) 0 (nI 0) 0 (nI 0) 0, zt_W q az to fo, zs_W q az sb gb, zb_W q az st sp wy se, zf_W q az ms ts, zq_W q az r1 r2] ∧ ∀ p, p < 8 → sb p = nI p ∧ gb p = nI p
set_option maxHeartbeats 4000000 in
set_option maxRecDepth 100000 in
/-- the reference is made -/
theorem c_Z_init (l : Launch) (D : va_G) (q : wz_Q) (o : Nat) (x : Int32)  : wz_Mv l y_Z_init ws_Z_init ({ frames := 2, cells := 12, slots := 267222, locals := 41 } : Room) D q ([.ref o, .int x] : List Value) [[(o, .inr (5, [.int (nI 0), .int (nI 0), .int (nI 0), .null, .null, .null, .null, .int (nI 0), .int (nI 0), .int (nI 0), .null, .null, .null, .null, .int (nI 0), .int (nI 0), .int (nI 0), .long 0, .null, .null, .null, .null]))]] (po_Z_init q o x) 12 267222 := by
  intro sz9
  refine wz_enter (cc := b_Z_init) (maxL := 2) (ret := none) (Qc := fun A => (va_Qv (po_Z_init q o x) (wz_At D q A) A)) (by decide) (Nat.le_of_ble_eq_true rfl) ?_
  intro p e s m below meth c A ls C hP hD hS hl
  obtain ⟨hx, hb, hr, hml, hlocks, hown, hts, hN, hK, hA, hnm⟩ := C
  have hown : s.vm.findClass "TwoEndSearchModel" = some m.cls := hown
  have hl : lv_has ls 2 [(0, .ref o), (1, .int x)] := hl
  have hinit : meth.name = "<init>" := hnm
  refine lv_aload_n hx hb d_Z_init_0 rfl (lv_at hl 0 rfl) ?_
  refine W.objInit hx hb hown (hts _ kw_454) (hts _ kw_44) (hts _ kw_45) rfl (by rw [hml]; exact hl.1) rfl d_Z_init_1 (Nat.le_of_ble_eq_true rfl) (Nat.le_of_ble_eq_true rfl) ?_
  refine W.eq (g2 := F0 m 4 ls []) rfl ?_
  refine lv_aload_n hx hb d_Z_init_4 rfl (lv_at hl 0 rfl) ?_
  refine lv_bipush (v := nI 48) hx hb d_Z_init_5 (by decide) ?_
  refine wz_newi (n := 48) hx hb (hts _ kw_76) hK hP hD hS hA (by decide) (Nat.le_of_ble_eq_true rfl) (Nat.le_of_ble_eq_true rfl) d_Z_init_7 (fun r_7 H hP hD hS => ?_)
  have hP : va_P D vwCl ([[(o, .inr (5, [.int (nI 0), .int (nI 0), .int (nI 0), .null, .null, .null, .null, .int (nI 0), .int (nI 0), .int (nI 0), .null, .null, .null, .null, .int (nI 0), .int (nI 0), .int (nI 0), .long 0, .null, .null, .null, .null]))], [(r_7, .inl (q.1, 48, .inl (fun _ => 0)))]] : wz_G).flatten H := hP
  have hD : va_D A ([[(o, .inr (5, [.int (nI 0), .int (nI 0), .int (nI 0), .null, .null, .null, .null, .int (nI 0), .int (nI 0), .int (nI 0), .null, .null, .null, .null, .int (nI 0), .int (nI 0), .int (nI 0), .long 0, .null, .null, .null, .null]))], [(r_7, .inl (q.1, 48, .inl (fun _ => 0)))]] : wz_G).flatten := hD
  refine wz_putF (gs' := [[(o, .inr (5, [.int (nI 0), .int (nI 0), .int (nI 0), .ref r_7, .null, .null, .null, .int (nI 0), .int (nI 0), .int (nI 0), .null, .null, .null, .null, .int (nI 0), .int (nI 0), .int (nI 0), .long 0, .null, .null, .null, .null]))], [(r_7, .inl (q.1, 48, .inl (fun _ => 0)))]]) (v := .ref r_7) (T := T_Z) (N := 22) hx hb hts i_Z t_Z t_Z_ok n_Z hown hK hP hD hS 0 0 rfl rfl rfl 3 (by decide) (hts _ kw_468) rfl rfl hinit rfl (ty := t_Z 3) (by decide +kernel) rfl rfl (Nat.le_of_ble_eq_true rfl) d_Z_init_9 rfl (fun H locs hP hD hS => ?_)
  refine lv_aload_n hx hb d_Z_init_12 rfl (lv_at hl 0 rfl) ?_
  refine lv_bipush (v := nI 6) hx hb d_Z_init_13 (by decide) ?_
  refine wz_newi (n := 6) hx hb (hts _ kw_76) hK hP hD hS hA (by decide) (Nat.le_of_ble_eq_true rfl) (Nat.le_of_ble_eq_true rfl) d_Z_init_15 (fun r_15 H hP hD hS => ?_)
  have hP : va_P D vwCl ([[(o, .inr (5, [.int (nI 0), .int (nI 0), .int (nI 0), .ref r_7, .null, .null, .null, .int (nI 0), .int (nI 0), .int (nI 0), .null, .null, .null, .null, .int (nI 0), .int (nI 0), .int (nI 0), .long 0, .null, .null, .null, .null]))], [(r_7, .inl (q.1, 48, .inl (fun _ => 0)))], [(r_15, .inl (q.1, 6, .inl (fun _ => 0)))]] : wz_G).flatten H := hP
  have hD : va_D A ([[(o, .inr (5, [.int (nI 0), .int (nI 0), .int (nI 0), .ref r_7, .null, .null, .null, .int (nI 0), .int (nI 0), .int (nI 0), .null, .null, .null, .null, .int (nI 0), .int (nI 0), .int (nI 0), .long 0, .null, .null, .null, .null]))], [(r_7, .inl (q.1, 48, .inl (fun _ => 0)))], [(r_15, .inl (q.1, 6, .inl (fun _ => 0)))]] : wz_G).flatten := hD
  refine wz_putF (gs' := [[(o, .inr (5, [.int (nI 0), .int (nI 0), .int (nI 0), .ref r_7, .ref r_15, .null, .null, .int (nI 0), .int (nI 0), .int (nI 0), .null, .null, .null, .null, .int (nI 0), .int (nI 0), .int (nI 0), .long 0, .null, .null, .null, .null]))], [(r_7, .inl (q.1, 48, .inl (fun _ => 0)))], [(r_15, .inl (q.1, 6, .inl (fun _ => 0)))]]) (v := .ref r_15) (T := T_Z) (N := 22) hx hb hts i_Z t_Z t_Z_ok n_Z hown hK hP hD hS 0 0 rfl rfl rfl 4 (by decide) (hts _ kw_469) rfl rfl hinit rfl (ty := t_Z 4) (by decide +kernel) rfl rfl (Nat.le_of_ble_eq_true rfl) d_Z_init_17 rfl (fun H locs hP hD hS => ?_)
  refine lv_aload_n hx hb d_Z_init_20 rfl (lv_at hl 0 rfl) ?_
  refine lv_bipush (v := nI 8) hx hb d_Z_init_21 (by decide) ?_
  refine wz_newi (n := 8) hx hb (hts _ kw_76) hK hP hD hS hA (by decide) (Nat.le_of_ble_eq_true rfl) (Nat.le_of_ble_eq_true rfl) d_Z_init_23 (fun r_23 H hP hD hS => ?_)
  have hP : va_P D vwCl ([[(o, .inr (5, [.int (nI 0), .int (nI 0), .int (nI 0), .ref r_7, .ref r_15, .null, .null, .int (nI 0), .int (nI 0), .int (nI 0), .null, .null, .null, .null, .int (nI 0), .int (nI 0), .int (nI 0), .long 0, .null, .null, .null, .null]))], [(r_7, .inl (q.1, 48, .inl (fun _ => 0)))], [(r_15, .inl (q.1, 6, .inl (fun _ => 0)))], [(r_23, .inl (q.1, 8, .inl (fun _ => 0)))]] : wz_G).flatten H := hP
  have hD : va_D A ([[(o, .inr (5, [.int (nI 0), .int (nI 0), .int (nI 0), .ref r_7, .ref r_15, .null, .null, .int (nI 0), .int (nI 0), .int (nI 0), .null, .null, .null, .null, .int (nI 0), .int (nI 0), .int (nI 0), .long 0, .null, .null, .null, .null]))], [(r_7, .inl (q.1, 48, .inl (fun _ => 0)))], [(r_15, .inl (q.1, 6, .inl (fun _ => 0)))], [(r_23, .inl (q.1, 8, .inl (fun _ => 0)))]] : wz_G).flatten := hD
  refine wz_putF (gs' := [[(o, .inr (5, [.int (nI 0), .int (nI 0), .int (nI 0), .ref r_7, .ref r_15, .ref r_23, .null, .int (nI 0), .int (nI 0), .int (nI 0), .null, .null, .null, .null, .int (nI 0), .int (nI 0), .int (nI 0), .long 0, .null, .null, .null, .null]))], [(r_7, .inl (q.1, 48, .inl (fun _ => 0)))], [(r_15, .inl (q.1, 6, .inl (fun _ => 0)))], [(r_23, .inl (q.1, 8, .inl (fun _ => 0)))]]) (v := .ref r_23) (T := T_Z) (N := 22) hx hb hts i_Z t_Z t_Z_ok n_Z hown hK hP hD hS 0 0 rfl rfl rfl 5 (by decide) (hts _ kw_470) rfl rfl hinit rfl (ty := t_Z 5) (by decide +kernel) rfl rfl (Nat.le_of_ble_eq_true rfl) d_Z_init_25 rfl (fun H locs hP hD hS => ?_)
  refine lv_aload_n hx hb d_Z_init_28 rfl (lv_at hl 0 rfl) ?_
  refine lv_bipush (v := nI 8) hx hb d_Z_init_29 (by decide) ?_
  refine wz_newi (n := 8) hx hb (hts _ kw_76) hK hP hD hS hA (by decide) (Nat.le_of_ble_eq_true rfl) (Nat.le_of_ble_eq_true rfl) d_Z_init_31 (fun r_31 H hP hD hS => ?_)
  have hP : va_P D vwCl ([[(o, .inr (5, [.int (nI 0), .int (nI 0), .int (nI 0), .ref r_7, .ref r_15, .ref r_23, .null, .int (nI 0), .int (nI 0), .int (nI 0), .null, .null, .null, .null, .int (nI 0), .int (nI 0), .int (nI 0), .long 0, .null, .null, .null, .null]))], [(r_7, .inl (q.1, 48, .inl (fun _ => 0)))], [(r_15, .inl (q.1, 6, .inl (fun _ => 0)))], [(r_23, .inl (q.1, 8, .inl (fun _ => 0)))], [(r_31, .inl (q.1, 8, .inl (fun _ => 0)))]] : wz_G).flatten H := hP
  have hD : va_D A ([[(o, .inr (5, [.int (nI 0), .int (nI 0), .int (nI 0), .ref r_7, .ref r_15, .ref r_23, .null, .int (nI 0), .int (nI 0), .int (nI 0), .null, .null, .null, .null, .int (nI 0), .int (nI 0), .int (nI 0), .long 0, .null, .null, .null, .null]))], [(r_7, .inl (q.1, 48, .inl (fun _ => 0)))], [(r_15, .inl (q.1, 6, .inl (fun _ => 0)))], [(r_23, .inl (q.1, 8, .inl (fun _ => 0)))], [(r_31, .inl (q.1, 8, .inl (fun _ => 0)))]] : wz_G).flatten := hD
  refine wz_putF (gs' := [[(o, .inr (5, [.int (nI 0), .int (nI 0), .int (nI 0), .ref r_7, .ref r_15, .ref r_23, .ref r_31, .int (nI 0), .int (nI 0), .int (nI 0), .null, .null, .null, .null, .int (nI 0), .int (nI 0), .int (nI 0), .long 0, .null, .null, .null, .null]))], [(r_7, .inl (q.1, 48, .inl (fun _ => 0)))], [(r_15, .inl (q.1, 6, .inl (fun _ => 0)))], [(r_23, .inl (q.1, 8, .inl (fun _ => 0)))], [(r_31, .inl (q.1, 8, .inl (fun _ => 0)))]]) (v := .ref r_31) (T := T_Z) (N := 22) hx hb hts i_Z t_Z t_Z_ok n_Z hown hK hP hD hS 0 0 rfl rfl rfl 6 (by decide) (hts _ kw_471) rfl rfl hinit rfl (ty := t_Z 6) (by decide +kernel) rfl rfl (Nat.le_of_ble_eq_true rfl) d_Z_init_33 rfl (fun H locs hP hD hS => ?_)
  refine lv_aload_n hx hb d_Z_init_36 rfl (lv_at hl 0 rfl) ?_
  refine lv_iconst (v := (-1)) hx hb d_Z_init_37 (by decide) ?_
  refine wz_put (gs' := [[(o, .inr (5, [.int (nI 0), .int (nI 0), .int (nI 0), .ref r_7, .ref r_15, .ref r_23, .ref r_31, .int (-1), .int (nI 0), .int (nI 0), .null, .null, .null, .null, .int (nI 0), .int (nI 0), .int (nI 0), .long 0, .null, .null, .null, .null]))], [(r_7, .inl (q.1, 48, .inl (fun _ => 0)))], [(r_15, .inl (q.1, 6, .inl (fun _ => 0)))], [(r_23, .inl (q.1, 8, .inl (fun _ => 0)))], [(r_31, .inl (q.1, 8, .inl (fun _ => 0)))]]) (v := .int (-1)) (T := T_Z) (N := 22) hx hb hts i_Z t_Z t_Z_ok n_Z hown hK hP hD hS 0 0 rfl rfl rfl 7 (by decide) (hts _ kw_472) rfl rfl (ty := t_Z 7) (by decide +kernel) rfl rfl (Nat.le_of_ble_eq_true rfl) d_Z_init_38 rfl (fun H locs hP hD hS => ?_)
  refine lv_aload_n hx hb d_Z_init_41 rfl (lv_at hl 0 rfl) ?_
  refine lv_ldc (v := nI 40320) hx hb hown (hts _ kw_455) d_Z_init_42 ?_
  refine wz_newi (n := 40320) hx hb (hts _ kw_76) hK hP hD hS hA (by decide) (Nat.le_of_ble_eq_true rfl) (Nat.le_of_ble_eq_true rfl) d_Z_init_44 (fun r_44 H hP hD hS => ?_)
  have hP : va_P D vwCl ([[(o, .inr (5, [.int (nI 0), .int (nI 0), .int (nI 0), .ref r_7, .ref r_15, .ref r_23, .ref r_31, .int (-1), .int (nI 0), .int (nI 0), .null, .null, .null, .null, .int (nI 0), .int (nI 0), .int (nI 0), .long 0, .null, .null, .null, .null]))], [(r_7, .inl (q.1, 48, .inl (fun _ => 0)))], [(r_15, .inl (q.1, 6, .inl (fun _ => 0)))], [(r_23, .inl (q.1, 8, .inl (fun _ => 0)))], [(r_31, .inl (q.1, 8, .inl (fun _ => 0)))], [(r_44, .inl (q.1, 40320, .inl (fun _ => 0)))]] : wz_G).flatten H := hP
  have hD : va_D A ([[(o, .inr (5, [.int (nI 0), .int (nI 0), .int (nI 0), .ref r_7, .ref r_15, .ref r_23, .ref r_31, .int (-1), .int (nI 0), .int (nI 0), .null, .null, .null, .null, .int (nI 0), .int (nI 0), .int (nI 0), .long 0, .null, .null, .null, .null]))], [(r_7, .inl (q.1, 48, .inl (fun _ => 0)))], [(r_15, .inl (q.1, 6, .inl (fun _ => 0)))], [(r_23, .inl (q.1, 8, .inl (fun _ => 0)))], [(r_31, .inl (q.1, 8, .inl (fun _ => 0)))], [(r_44, .inl (q.1, 40320, .inl (fun _ => 0)))]] : wz_G).flatten := hD
  refine wz_putF (gs' := [[(o, .inr (5, [.int (nI 0), .int (nI 0), .int (nI 0), .ref r_7, .ref r_15, .ref r_23, .ref r_31, .int (-1), .int (nI 0), .int (nI 0), .ref r_44, .null, .null, .null, .int (nI 0), .int (nI 0), .int (nI 0), .long 0, .null, .null, .null, .null]))], [(r_7, .inl (q.1, 48, .inl (fun _ => 0)))], [(r_15, .inl (q.1, 6, .inl (fun _ => 0)))], [(r_23, .inl (q.1, 8, .inl (fun _ => 0)))], [(r_31, .inl (q.1, 8, .inl (fun _ => 0)))], [(r_44, .inl (q.1, 40320, .inl (fun _ => 0)))]]) (v := .ref r_44) (T := T_Z) (N := 22) hx hb hts i_Z t_Z t_Z_ok n_Z hown hK hP hD hS 0 0 rfl rfl rfl 10 (by decide) (hts _ kw_475) rfl rfl hinit rfl (ty := t_Z 10) (by decide +kernel) rfl rfl (Nat.le_of_ble_eq_true rfl) d_Z_init_46 rfl (fun H locs hP hD hS => ?_)
  refine lv_aload_n hx hb d_Z_init_49 rfl (lv_at hl 0 rfl) ?_
  refine lv_ldc (v := nI 40320) hx hb hown (hts _ kw_455) d_Z_init_50 ?_
  refine wz_newi (n := 40320) hx hb (hts _ kw_76) hK hP hD hS hA (by decide) (Nat.le_of_ble_eq_true rfl) (Nat.le_of_ble_eq_true rfl) d_Z_init_52 (fun r_52 H hP hD hS => ?_)
  have hP : va_P D vwCl ([[(o, .inr (5, [.int (nI 0), .int (nI 0), .int (nI 0), .ref r_7, .ref r_15, .ref r_23, .ref r_31, .int (-1), .int (nI 0), .int (nI 0), .ref r_44, .null, .null, .null, .int (nI 0), .int (nI 0), .int (nI 0), .long 0, .null, .null, .null, .null]))], [(r_7, .inl (q.1, 48, .inl (fun _ => 0)))], [(r_15, .inl (q.1, 6, .inl (fun _ => 0)))], [(r_23, .inl (q.1, 8, .inl (fun _ => 0)))], [(r_31, .inl (q.1, 8, .inl (fun _ => 0)))], [(r_44, .inl (q.1, 40320, .inl (fun _ => 0)))], [(r_52, .inl (q.1, 40320, .inl (fun _ => 0)))]] : wz_G).flatten H := hP
  have hD : va_D A ([[(o, .inr (5, [.int (nI 0), .int (nI 0), .int (nI 0), .ref r_7, .ref r_15, .ref r_23, .ref r_31, .int (-1), .int (nI 0), .int (nI 0), .ref r_44, .null, .null, .null, .int (nI 0), .int (nI 0), .int (nI 0), .long 0, .null, .null, .null, .null]))], [(r_7, .inl (q.1, 48, .inl (fun _ => 0)))], [(r_15, .inl (q.1, 6, .inl (fun _ => 0)))], [(r_23, .inl (q.1, 8, .inl (fun _ => 0)))], [(r_31, .inl (q.1, 8, .inl (fun _ => 0)))], [(r_44, .inl (q.1, 40320, .inl (fun _ => 0)))], [(r_52, .inl (q.1, 40320, .inl (fun _ => 0)))]] : wz_G).flatten := hD
  refine wz_putF (gs' := [[(o, .inr (5, [.int (nI 0), .int (nI 0), .int (nI 0), .ref r_7, .ref r_15, .ref r_23, .ref r_31, .int (-1), .int (nI 0), .int (nI 0), .ref r_44, .ref r_52, .null, .null, .int (nI 0), .int (nI 0), .int (nI 0), .long 0, .null, .null, .null, .null]))], [(r_7, .inl (q.1, 48, .inl (fun _ => 0)))], [(r_15, .inl (q.1, 6, .inl (fun _ => 0)))], [(r_23, .inl (q.1, 8, .inl (fun _ => 0)))], [(r_31, .inl (q.1, 8, .inl (fun _ => 0)))], [(r_44, .inl (q.1, 40320, .inl (fun _ => 0)))], [(r_52, .inl (q.1, 40320, .inl (fun _ => 0)))]]) (v := .ref r_52) (T := T_Z) (N := 22) hx hb hts i_Z t_Z t_Z_ok n_Z hown hK hP hD hS 0 0 rfl rfl rfl 11 (by decide) (hts _ kw_476) rfl rfl hinit rfl (ty := t_Z 11) (by decide +kernel) rfl rfl (Nat.le_of_ble_eq_true rfl) d_Z_init_54 rfl (fun H locs hP hD hS => ?_)
  refine lv_aload_n hx hb d_Z_init_57 rfl (lv_at hl 0 rfl) ?_
  refine lv_ldc (v := nI 40320) hx hb hown (hts _ kw_455) d_Z_init_58 ?_
  refine wz_newl (n := 40320) hx hb (hts _ kw_168) hK hP hD hS hA (by decide) (Nat.le_of_ble_eq_true rfl) (Nat.le_of_ble_eq_true rfl) d_Z_init_60 (fun r_60 H hP hD hS => ?_)
  have hP : va_P D vwCl ([[(o, .inr (5, [.int (nI 0), .int (nI 0), .int (nI 0), .ref r_7, .ref r_15, .ref r_23, .ref r_31, .int (-1), .int (nI 0), .int (nI 0), .ref r_44, .ref r_52, .null, .null, .int (nI 0), .int (nI 0), .int (nI 0), .long 0, .null, .null, .null, .null]))], [(r_7, .inl (q.1, 48, .inl (fun _ => 0)))], [(r_15, .inl (q.1, 6, .inl (fun _ => 0)))], [(r_23, .inl (q.1, 8, .inl (fun _ => 0)))], [(r_31, .inl (q.1, 8, .inl (fun _ => 0)))], [(r_44, .inl (q.1, 40320, .inl (fun _ => 0)))], [(r_52, .inl (q.1, 40320, .inl (fun _ => 0)))], [(r_60, .inl (q.2.1, 40320, .inr (.inl (fun _ => 0))))]] : wz_G).flatten H := hP
  have hD : va_D A ([[(o, .inr (5, [.int (nI 0), .int (nI 0), .int (nI 0), .ref r_7, .ref r_15, .ref r_23, .ref r_31, .int (-1), .int (nI 0), .int (nI 0), .ref r_44, .ref r_52, .null, .null, .int (nI 0), .int (nI 0), .int (nI 0), .long 0, .null, .null, .null, .null]))], [(r_7, .inl (q.1, 48, .inl (fun _ => 0)))], [(r_15, .inl (q.1, 6, .inl (fun _ => 0)))], [(r_23, .inl (q.1, 8, .inl (fun _ => 0)))], [(r_31, .inl (q.1, 8, .inl (fun _ => 0)))], [(r_44, .inl (q.1, 40320, .inl (fun _ => 0)))], [(r_52, .inl (q.1, 40320, .inl (fun _ => 0)))], [(r_60, .inl (q.2.1, 40320, .inr (.inl (fun _ => 0))))]] : wz_G).flatten := hD
  refine wz_putF (gs' := [[(o, .inr (5, [.int (nI 0), .int (nI 0), .int (nI 0), .ref r_7, .ref r_15, .ref r_23, .ref r_31, .int (-1), .int (nI 0), .int (nI 0), .ref r_44, .ref r_52, .ref r_60, .null, .int (nI 0), .int (nI 0), .int (nI 0), .long 0, .null, .null, .null, .null]))], [(r_7, .inl (q.1, 48, .inl (fun _ => 0)))], [(r_15, .inl (q.1, 6, .inl (fun _ => 0)))], [(r_23, .inl (q.1, 8, .inl (fun _ => 0)))], [(r_31, .inl (q.1, 8, .inl (fun _ => 0)))], [(r_44, .inl (q.1, 40320, .inl (fun _ => 0)))], [(r_52, .inl (q.1, 40320, .inl (fun _ => 0)))], [(r_60, .inl (q.2.1, 40320, .inr (.inl (fun _ => 0))))]]) (v := .ref r_60) (T := T_Z) (N := 22) hx hb hts i_Z t_Z t_Z_ok n_Z hown hK hP hD hS 0 0 rfl rfl rfl 12 (by decide) (hts _ kw_477) rfl rfl hinit rfl (ty := t_Z 12) (by decide +kernel) rfl rfl (Nat.le_of_ble_eq_true rfl) d_Z_init_62 rfl (fun H locs hP hD hS => ?_)
  refine lv_aload_n hx hb d_Z_init_65 rfl (lv_at hl 0 rfl) ?_
  refine lv_ldc (v := nI 65536) hx hb hown (hts _ kw_456) d_Z_init_66 ?_
  refine wz_newi (n := 65536) hx hb (hts _ kw_76) hK hP hD hS hA (by decide) (Nat.le_of_ble_eq_true rfl) (Nat.le_of_ble_eq_true rfl) d_Z_init_68 (fun r_68 H hP hD hS => ?_)
  have hP : va_P D vwCl ([[(o, .inr (5, [.int (nI 0), .int (nI 0), .int (nI 0), .ref r_7, .ref r_15, .ref r_23, .ref r_31, .int (-1), .int (nI 0), .int (nI 0), .ref r_44, .ref r_52, .ref r_60, .null, .int (nI 0), .int (nI 0), .int (nI 0), .long 0, .null, .null, .null, .null]))], [(r_7, .inl (q.1, 48, .inl (fun _ => 0)))], [(r_15, .inl (q.1, 6, .inl (fun _ => 0)))], [(r_23, .inl (q.1, 8, .inl (fun _ => 0)))], [(r_31, .inl (q.1, 8, .inl (fun _ => 0)))], [(r_44, .inl (q.1, 40320, .inl (fun _ => 0)))], [(r_52, .inl (q.1, 40320, .inl (fun _ => 0)))], [(r_60, .inl (q.2.1, 40320, .inr (.inl (fun _ => 0))))], [(r_68, .inl (q.1, 65536, .inl (fun _ => 0)))]] : wz_G).flatten H := hP
  have hD : va_D A ([[(o, .inr (5, [.int (nI 0), .int (nI 0), .int (nI 0), .ref r_7, .ref r_15, .ref r_23, .ref r_31, .int (-1), .int (nI 0), .int (nI 0), .ref r_44, .ref r_52, .ref r_60, .null, .int (nI 0), .int (nI 0), .int (nI 0), .long 0, .null, .null, .null, .null]))], [(r_7, .inl (q.1, 48, .inl (fun _ => 0)))], [(r_15, .inl (q.1, 6, .inl (fun _ => 0)))], [(r_23, .inl (q.1, 8, .inl (fun _ => 0)))], [(r_31, .inl (q.1, 8, .inl (fun _ => 0)))], [(r_44, .inl (q.1, 40320, .inl (fun _ => 0)))], [(r_52, .inl (q.1, 40320, .inl (fun _ => 0)))], [(r_60, .inl (q.2.1, 40320, .inr (.inl (fun _ => 0))))], [(r_68, .inl (q.1, 65536, .inl (fun _ => 0)))]] : wz_G).flatten := hD
  refine wz_putF (gs' := [[(o, .inr (5, [.int (nI 0), .int (nI 0), .int (nI 0), .ref r_7, .ref r_15, .ref r_23, .ref r_31, .int (-1), .int (nI 0), .int (nI 0), .ref r_44, .ref r_52, .ref r_60, .ref r_68, .int (nI 0), .int (nI 0), .int (nI 0), .long 0, .null, .null, .null, .null]))], [(r_7, .inl (q.1, 48, .inl (fun _ => 0)))], [(r_15, .inl (q.1, 6, .inl (fun _ => 0)))], [(r_23, .inl (q.1, 8, .inl (fun _ => 0)))], [(r_31, .inl (q.1, 8, .inl (fun _ => 0)))], [(r_44, .inl (q.1, 40320, .inl (fun _ => 0)))], [(r_52, .inl (q.1, 40320, .inl (fun _ => 0)))], [(r_60, .inl (q.2.1, 40320, .inr (.inl (fun _ => 0))))], [(r_68, .inl (q.1, 65536, .inl (fun _ => 0)))]]) (v := .ref r_68) (T := T_Z) (N := 22) hx hb hts i_Z t_Z t_Z_ok n_Z hown hK hP hD hS 0 0 rfl rfl rfl 13 (by decide) (hts _ kw_478) rfl rfl hinit rfl (ty := t_Z 13) (by decide +kernel) rfl rfl (Nat.le_of_ble_eq_true rfl) d_Z_init_70 rfl (fun H locs hP hD hS => ?_)
  refine lv_aload_n hx hb d_Z_init_73 rfl (lv_at hl 0 rfl) ?_
  refine lv_ldc (v := nI 40320) hx hb hown (hts _ kw_455) d_Z_init_74 ?_
  refine wz_newi (n := 40320) hx hb (hts _ kw_76) hK hP hD hS hA (by decide) (Nat.le_of_ble_eq_true rfl) (Nat.le_of_ble_eq_true rfl) d_Z_init_76 (fun r_76 H hP hD hS => ?_)
  have hP : va_P D vwCl ([[(o, .inr (5, [.int (nI 0), .int (nI 0), .int (nI 0), .ref r_7, .ref r_15, .ref r_23, .ref r_31, .int (-1), .int (nI 0), .int (nI 0), .ref r_44, .ref r_52, .ref r_60, .ref r_68, .int (nI 0), .int (nI 0), .int (nI 0), .long 0, .null, .null, .null, .null]))], [(r_7, .inl (q.1, 48, .inl (fun _ => 0)))], [(r_15, .inl (q.1, 6, .inl (fun _ => 0)))], [(r_23, .inl (q.1, 8, .inl (fun _ => 0)))], [(r_31, .inl (q.1, 8, .inl (fun _ => 0)))], [(r_44, .inl (q.1, 40320, .inl (fun _ => 0)))], [(r_52, .inl (q.1, 40320, .inl (fun _ => 0)))], [(r_60, .inl (q.2.1, 40320, .inr (.inl (fun _ => 0))))], [(r_68, .inl (q.1, 65536, .inl (fun _ => 0)))], [(r_76, .inl (q.1, 40320, .inl (fun _ => 0)))]] : wz_G).flatten H := hP
  have hD : va_D A ([[(o, .inr (5, [.int (nI 0), .int (nI 0), .int (nI 0), .ref r_7, .ref r_15, .ref r_23, .ref r_31, .int (-1), .int (nI 0), .int (nI 0), .ref r_44, .ref r_52, .ref r_60, .ref r_68, .int (nI 0), .int (nI 0), .int (nI 0), .long 0, .null, .null, .null, .null]))], [(r_7, .inl (q.1, 48, .inl (fun _ => 0)))], [(r_15, .inl (q.1, 6, .inl (fun _ => 0)))], [(r_23, .inl (q.1, 8, .inl (fun _ => 0)))], [(r_31, .inl (q.1, 8, .inl (fun _ => 0)))], [(r_44, .inl (q.1, 40320, .inl (fun _ => 0)))], [(r_52, .inl (q.1, 40320, .inl (fun _ => 0)))], [(r_60, .inl (q.2.1, 40320, .inr (.inl (fun _ => 0))))], [(r_68, .inl (q.1, 65536, .inl (fun _ => 0)))], [(r_76, .inl (q.1, 40320, .inl (fun _ => 0)))]] : wz_G).flatten := hD
  refine wz_putF (gs' := [[(o, .inr (5, [.int (nI 0), .int (nI 0), .int (nI 0), .ref r_7, .ref r_15, .ref r_23, .ref r_31, .int (-1), .int (nI 0), .int (nI 0), .ref r_44, .ref r_52, .ref r_60, .ref r_68, .int (nI 0), .int (nI 0), .int (nI 0), .long 0, .ref r_76, .null, .null, .null]))], [(r_7, .inl (q.1, 48, .inl (fun _ => 0)))], [(r_15, .inl (q.1, 6, .inl (fun _ => 0)))], [(r_23, .inl (q.1, 8, .inl (fun _ => 0)))], [(r_31, .inl (q.1, 8, .inl (fun _ => 0)))], [(r_44, .inl (q.1, 40320, .inl (fun _ => 0)))], [(r_52, .inl (q.1, 40320, .inl (fun _ => 0)))], [(r_60, .inl (q.2.1, 40320, .inr (.inl (fun _ => 0))))], [(r_68, .inl (q.1, 65536, .inl (fun _ => 0)))], [(r_76, .inl (q.1, 40320, .inl (fun _ => 0)))]]) (v := .ref r_76) (T := T_Z) (N := 22) hx hb hts i_Z t_Z t_Z_ok n_Z hown hK hP hD hS 0 0 rfl rfl rfl 18 (by decide) (hts _ kw_482) rfl rfl hinit rfl (ty := t_Z 18) (by decide +kernel) rfl rfl (Nat.le_of_ble_eq_true rfl) d_Z_init_78 rfl (fun H locs hP hD hS => ?_)
  refine lv_aload_n hx hb d_Z_init_81 rfl (lv_at hl 0 rfl) ?_
  refine lv_ldc (v := nI 40320) hx hb hown (hts _ kw_455) d_Z_init_82 ?_
  refine wz_newi (n := 40320) hx hb (hts _ kw_76) hK hP hD hS hA (by decide) (Nat.le_of_ble_eq_true rfl) (Nat.le_of_ble_eq_true rfl) d_Z_init_84 (fun r_84 H hP hD hS => ?_)
  have hP : va_P D vwCl ([[(o, .inr (5, [.int (nI 0), .int (nI 0), .int (nI 0), .ref r_7, .ref r_15, .ref r_23, .ref r_31, .int (-1), .int (nI 0), .int (nI 0), .ref r_44, .ref r_52, .ref r_60, .ref r_68, .int (nI 0), .int (nI 0), .int (nI 0), .long 0, .ref r_76, .null, .null, .null]))], [(r_7, .inl (q.1, 48, .inl (fun _ => 0)))], [(r_15, .inl (q.1, 6, .inl (fun _ => 0)))], [(r_23, .inl (q.1, 8, .inl (fun _ => 0)))], [(r_31, .inl (q.1, 8, .inl (fun _ => 0)))], [(r_44, .inl (q.1, 40320, .inl (fun _ => 0)))], [(r_52, .inl (q.1, 40320, .inl (fun _ => 0)))], [(r_60, .inl (q.2.1, 40320, .inr (.inl (fun _ => 0))))], [(r_68, .inl (q.1, 65536, .inl (fun _ => 0)))], [(r_76, .inl (q.1, 40320, .inl (fun _ => 0)))], [(r_84, .inl (q.1, 40320, .inl (fun _ => 0)))]] : wz_G).flatten H := hP
  have hD : va_D A ([[(o, .inr (5, [.int (nI 0), .int (nI 0), .int (nI 0), .ref r_7, .ref r_15, .ref r_23, .ref r_31, .int (-1), .int (nI 0), .int (nI 0), .ref r_44, .ref r_52, .ref r_60, .ref r_68, .int (nI 0), .int (nI 0), .int (nI 0), .long 0, .ref r_76, .null, .null, .null]))], [(r_7, .inl (q.1, 48, .inl (fun _ => 0)))], [(r_15, .inl (q.1, 6, .inl (fun _ => 0)))], [(r_23, .inl (q.1, 8, .inl (fun _ => 0)))], [(r_31, .inl (q.1, 8, .inl (fun _ => 0)))], [(r_44, .inl (q.1, 40320, .inl (fun _ => 0)))], [(r_52, .inl (q.1, 40320, .inl (fun _ => 0)))], [(r_60, .inl (q.2.1, 40320, .inr (.inl (fun _ => 0))))], [(r_68, .inl (q.1, 65536, .inl (fun _ => 0)))], [(r_76, .inl (q.1, 40320, .inl (fun _ => 0)))], [(r_84, .inl (q.1, 40320, .inl (fun _ => 0)))]] : wz_G).flatten := hD
  refine wz_putF (gs' := [[(o, .inr (5, [.int (nI 0), .int (nI 0), .int (nI 0), .ref r_7, .ref r_15, .ref r_23, .ref r_31, .int (-1), .int (nI 0), .int (nI 0), .ref r_44, .ref r_52, .ref r_60, .ref r_68, .int (nI 0), .int (nI 0), .int (nI 0), .long 0, .ref r_76, .ref r_84, .null, .null]))], [(r_7, .inl (q.1, 48, .inl (fun _ => 0)))], [(r_15, .inl (q.1, 6, .inl (fun _ => 0)))], [(r_23, .inl (q.1, 8, .inl (fun _ => 0)))], [(r_31, .inl (q.1, 8, .inl (fun _ => 0)))], [(r_44, .inl (q.1, 40320, .inl (fun _ => 0)))], [(r_52, .inl (q.1, 40320, .inl (fun _ => 0)))], [(r_60, .inl (q.2.1, 40320, .inr (.inl (fun _ => 0))))], [(r_68, .inl (q.1, 65536, .inl (fun _ => 0)))], [(r_76, .inl (q.1, 40320, .inl (fun _ => 0)))], [(r_84, .inl (q.1, 40320, .inl (fun _ => 0)))]]) (v := .ref r_84) (T := T_Z) (N := 22) hx hb hts i_Z t_Z t_Z_ok n_Z hown hK hP hD hS 0 0 rfl rfl rfl 19 (by decide) (hts _ kw_483) rfl rfl hinit rfl (ty := t_Z 19) (by decide +kernel) rfl rfl (Nat.le_of_ble_eq_true rfl) d_Z_init_86 rfl (fun H locs hP hD hS => ?_)
  refine lv_aload_n hx hb d_Z_init_89 rfl (lv_at hl 0 rfl) ?_
  refine lv_bipush (v := nI 8) hx hb d_Z_init_90 (by decide) ?_
  refine wz_newi (n := 8) hx hb (hts _ kw_76) hK hP hD hS hA (by decide) (Nat.le_of_ble_eq_true rfl) (Nat.le_of_ble_eq_true rfl) d_Z_init_92 (fun r_92 H hP hD hS => ?_)
  have hP : va_P D vwCl ([[(o, .inr (5, [.int (nI 0), .int (nI 0), .int (nI 0), .ref r_7, .ref r_15, .ref r_23, .ref r_31, .int (-1), .int (nI 0), .int (nI 0), .ref r_44, .ref r_52, .ref r_60, .ref r_68, .int (nI 0), .int (nI 0), .int (nI 0), .long 0, .ref r_76, .ref r_84, .null, .null]))], [(r_7, .inl (q.1, 48, .inl (fun _ => 0)))], [(r_15, .inl (q.1, 6, .inl (fun _ => 0)))], [(r_23, .inl (q.1, 8, .inl (fun _ => 0)))], [(r_31, .inl (q.1, 8, .inl (fun _ => 0)))], [(r_44, .inl (q.1, 40320, .inl (fun _ => 0)))], [(r_52, .inl (q.1, 40320, .inl (fun _ => 0)))], [(r_60, .inl (q.2.1, 40320, .inr (.inl (fun _ => 0))))], [(r_68, .inl (q.1, 65536, .inl (fun _ => 0)))], [(r_76, .inl (q.1, 40320, .inl (fun _ => 0)))], [(r_84, .inl (q.1, 40320, .inl (fun _ => 0)))], [(r_92, .inl (q.1, 8, .inl (fun _ => 0)))]] : wz_G).flatten H := hP
  have hD : va_D A ([[(o, .inr (5, [.int (nI 0), .int (nI 0), .int (nI 0), .ref r_7, .ref r_15, .ref r_23, .ref r_31, .int (-1), .int (nI 0), .int (nI 0), .ref r_44, .ref r_52, .ref r_60, .ref r_68, .int (nI 0), .int (nI 0), .int (nI 0), .long 0, .ref r_76, .ref r_84, .null, .null]))], [(r_7, .inl (q.1, 48, .inl (fun _ => 0)))], [(r_15, .inl (q.1, 6, .inl (fun _ => 0)))], [(r_23, .inl (q.1, 8, .inl (fun _ => 0)))], [(r_31, .inl (q.1, 8, .inl (fun _ => 0)))], [(r_44, .inl (q.1, 40320, .inl (fun _ => 0)))], [(r_52, .inl (q.1, 40320, .inl (fun _ => 0)))], [(r_60, .inl (q.2.1, 40320, .inr (.inl (fun _ => 0))))], [(r_68, .inl (q.1, 65536, .inl (fun _ => 0)))], [(r_76, .inl (q.1, 40320, .inl (fun _ => 0)))], [(r_84, .inl (q.1, 40320, .inl (fun _ => 0)))], [(r_92, .inl (q.1, 8, .inl (fun _ => 0)))]] : wz_G).flatten := hD
  refine wz_putF (gs' := [[(o, .inr (5, [.int (nI 0), .int (nI 0), .int (nI 0), .ref r_7, .ref r_15, .ref r_23, .ref r_31, .int (-1), .int (nI 0), .int (nI 0), .ref r_44, .ref r_52, .ref r_60, .ref r_68, .int (nI 0), .int (nI 0), .int (nI 0), .long 0, .ref r_76, .ref r_84, .ref r_92, .null]))], [(r_7, .inl (q.1, 48, .inl (fun _ => 0)))], [(r_15, .inl (q.1, 6, .inl (fun _ => 0)))], [(r_23, .inl (q.1, 8, .inl (fun _ => 0)))], [(r_31, .inl (q.1, 8, .inl (fun _ => 0)))], [(r_44, .inl (q.1, 40320, .inl (fun _ => 0)))], [(r_52, .inl (q.1, 40320, .inl (fun _ => 0)))], [(r_60, .inl (q.2.1, 40320, .inr (.inl (fun _ => 0))))], [(r_68, .inl (q.1, 65536, .inl (fun _ => 0)))], [(r_76, .inl (q.1, 40320, .inl (fun _ => 0)))], [(r_84, .inl (q.1, 40320, .inl (fun _ => 0)))], [(r_92, .inl (q.1, 8, .inl (fun _ => 0)))]]) (v := .ref r_92) (T := T_Z) (N := 22) hx hb hts i_Z t_Z t_Z_ok n_Z hown hK hP hD hS 0 0 rfl rfl rfl 20 (by decide) (hts _ kw_484) rfl rfl hinit rfl (ty := t_Z 20) (by decide +kernel) rfl rfl (Nat.le_of_ble_eq_true rfl) d_Z_init_94 rfl (fun H locs hP hD hS => ?_)
  refine lv_aload_n hx hb d_Z_init_97 rfl (lv_at hl 0 rfl) ?_
  refine lv_bipush (v := nI 8) hx hb d_Z_init_98 (by decide) ?_
  refine wz_newi (n := 8) hx hb (hts _ kw_76) hK hP hD hS hA (by decide) (Nat.le_of_ble_eq_true rfl) (Nat.le_of_ble_eq_true rfl) d_Z_init_100 (fun r_100 H hP hD hS => ?_)
  have hP : va_P D vwCl ([[(o, .inr (5, [.int (nI 0), .int (nI 0), .int (nI 0), .ref r_7, .ref r_15, .ref r_23, .ref r_31, .int (-1), .int (nI 0), .int (nI 0), .ref r_44, .ref r_52, .ref r_60, .ref r_68, .int (nI 0), .int (nI 0), .int (nI 0), .long 0, .ref r_76, .ref r_84, .ref r_92, .null]))], [(r_7, .inl (q.1, 48, .inl (fun _ => 0)))], [(r_15, .inl (q.1, 6, .inl (fun _ => 0)))], [(r_23, .inl (q.1, 8, .inl (fun _ => 0)))], [(r_31, .inl (q.1, 8, .inl (fun _ => 0)))], [(r_44, .inl (q.1, 40320, .inl (fun _ => 0)))], [(r_52, .inl (q.1, 40320, .inl (fun _ => 0)))], [(r_60, .inl (q.2.1, 40320, .inr (.inl (fun _ => 0))))], [(r_68, .inl (q.1, 65536, .inl (fun _ => 0)))], [(r_76, .inl (q.1, 40320, .inl (fun _ => 0)))], [(r_84, .inl (q.1, 40320, .inl (fun _ => 0)))], [(r_92, .inl (q.1, 8, .inl (fun _ => 0)))], [(r_100, .inl (q.1, 8, .inl (fun _ => 0)))]] : wz_G).flatten H := hP
  have hD : va_D A ([[(o, .inr (5, [.int (nI 0), .int (nI 0), .int (nI 0), .ref r_7, .ref r_15, .ref r_23, .ref r_31, .int (-1), .int (nI 0), .int (nI 0), .ref r_44, .ref r_52, .ref r_60, .ref r_68, .int (nI 0), .int (nI 0), .int (nI 0), .long 0, .ref r_76, .ref r_84, .ref r_92, .null]))], [(r_7, .inl (q.1, 48, .inl (fun _ => 0)))], [(r_15, .inl (q.1, 6, .inl (fun _ => 0)))], [(r_23, .inl (q.1, 8, .inl (fun _ => 0)))], [(r_31, .inl (q.1, 8, .inl (fun _ => 0)))], [(r_44, .inl (q.1, 40320, .inl (fun _ => 0)))], [(r_52, .inl (q.1, 40320, .inl (fun _ => 0)))], [(r_60, .inl (q.2.1, 40320, .inr (.inl (fun _ => 0))))], [(r_68, .inl (q.1, 65536, .inl (fun _ => 0)))], [(r_76, .inl (q.1, 40320, .inl (fun _ => 0)))], [(r_84, .inl (q.1, 40320, .inl (fun _ => 0)))], [(r_92, .inl (q.1, 8, .inl (fun _ => 0)))], [(r_100, .inl (q.1, 8, .inl (fun _ => 0)))]] : wz_G).flatten := hD
  refine wz_putF (gs' := [[(o, .inr (5, [.int (nI 0), .int (nI 0), .int (nI 0), .ref r_7, .ref r_15, .ref r_23, .ref r_31, .int (-1), .int (nI 0), .int (nI 0), .ref r_44, .ref r_52, .ref r_60, .ref r_68, .int (nI 0), .int (nI 0), .int (nI 0), .long 0, .ref r_76, .ref r_84, .ref r_92, .ref r_100]))], [(r_7, .inl (q.1, 48, .inl (fun _ => 0)))], [(r_15, .inl (q.1, 6, .inl (fun _ => 0)))], [(r_23, .inl (q.1, 8, .inl (fun _ => 0)))], [(r_31, .inl (q.1, 8, .inl (fun _ => 0)))], [(r_44, .inl (q.1, 40320, .inl (fun _ => 0)))], [(r_52, .inl (q.1, 40320, .inl (fun _ => 0)))], [(r_60, .inl (q.2.1, 40320, .inr (.inl (fun _ => 0))))], [(r_68, .inl (q.1, 65536, .inl (fun _ => 0)))], [(r_76, .inl (q.1, 40320, .inl (fun _ => 0)))], [(r_84, .inl (q.1, 40320, .inl (fun _ => 0)))], [(r_92, .inl (q.1, 8, .inl (fun _ => 0)))], [(r_100, .inl (q.1, 8, .inl (fun _ => 0)))]]) (v := .ref r_100) (T := T_Z) (N := 22) hx hb hts i_Z t_Z t_Z_ok n_Z hown hK hP hD hS 0 0 rfl rfl rfl 21 (by decide) (hts _ kw_485) rfl rfl hinit rfl (ty := t_Z 21) (by decide +kernel) rfl rfl (Nat.le_of_ble_eq_true rfl) d_Z_init_102 rfl (fun H locs hP hD hS => ?_)
  refine lv_aload_n hx hb d_Z_init_105 rfl (lv_at hl 0 rfl) ?_
  refine lv_iload_n hx hb d_Z_init_106 rfl (lv_at hl 1 rfl) ?_
  refine lv_iconst (v := nI 1) hx hb d_Z_init_107 (by decide) ?_
  refine lv_icmp_ge (tgt := 115) hx hb d_Z_init_108 (by decide) (fun hc => ?_) (fun hc => ?_)
  · skip
    refine lv_iload_n hx hb d_Z_init_115 rfl (lv_at hl 1 rfl) ?_
    refine lv_bipush (v := nI 8) hx hb d_Z_init_116 (by decide) ?_
    refine lv_icmp_le (tgt := 126) hx hb d_Z_init_118 (by decide) (fun hc2 => ?_) (fun hc2 => ?_)
    · skip
      refine lv_iload_n hx hb d_Z_init_126 rfl (lv_at hl 1 rfl) ?_
      refine wz_topi (y := nI (pz_n x)) (pz_n_x hc hc2).1 ?_
      refine wz_putF (gs' := [[(o, .inr (5, [.int (nI 0), .int (nI (pz_n x)), .int (nI 0), .ref r_7, .ref r_15, .ref r_23, .ref r_31, .int (-1), .int (nI 0), .int (nI 0), .ref r_44, .ref r_52, .ref r_60, .ref r_68, .int (nI 0), .int (nI 0), .int (nI 0), .long 0, .ref r_76, .ref r_84, .ref r_92, .ref r_100]))], [(r_7, .inl (q.1, 48, .inl (fun _ => 0)))], [(r_15, .inl (q.1, 6, .inl (fun _ => 0)))], [(r_23, .inl (q.1, 8, .inl (fun _ => 0)))], [(r_31, .inl (q.1, 8, .inl (fun _ => 0)))], [(r_44, .inl (q.1, 40320, .inl (fun _ => 0)))], [(r_52, .inl (q.1, 40320, .inl (fun _ => 0)))], [(r_60, .inl (q.2.1, 40320, .inr (.inl (fun _ => 0))))], [(r_68, .inl (q.1, 65536, .inl (fun _ => 0)))], [(r_76, .inl (q.1, 40320, .inl (fun _ => 0)))], [(r_84, .inl (q.1, 40320, .inl (fun _ => 0)))], [(r_92, .inl (q.1, 8, .inl (fun _ => 0)))], [(r_100, .inl (q.1, 8, .inl (fun _ => 0)))]]) (v := .int (nI (pz_n x))) (T := T_Z) (N := 22) hx hb hts i_Z t_Z t_Z_ok n_Z hown hK hP hD hS 0 0 rfl rfl rfl 1 (by decide) (hts _ kw_466) rfl rfl hinit rfl (ty := t_Z 1) (by decide +kernel) rfl rfl (Nat.le_of_ble_eq_true rfl) d_Z_init_127 rfl (fun H locs hP hD hS => ?_)
      refine lv_aload_n hx hb d_Z_init_130 rfl (lv_at hl 0 rfl) ?_
      obtain ⟨az, h_0, h_1, h_2, h_3, h_4, h_5, h_6, h_7, h_8, h_9, h_10, h_11, h_12⟩ : ∃ az : Nat → Nat, az 0 = o ∧ az 1 = r_7 ∧ az 2 = r_15 ∧ az 3 = r_23 ∧ az 4 = r_31 ∧ az 5 = r_44 ∧ az 6 = r_52 ∧ az 7 = r_60 ∧ az 8 = r_68 ∧ az 9 = r_76 ∧ az 10 = r_84 ∧ az 11 = r_92 ∧ az 12 = r_100 := ⟨fun i => ([o, r_7, r_15, r_23, r_31, r_44, r_52, r_60, r_68, r_76, r_84, r_92, r_100] : List Nat).getD i 0, rfl, rfl, rfl, rfl, rfl, rfl, rfl, rfl, rfl, rfl, rfl, rfl, rfl⟩
      subst h_0
      subst h_1
      subst h_2
      subst h_3
      subst h_4
      subst h_5
      subst h_6
      subst h_7
      subst h_8
      subst h_9
      subst h_10
      subst h_11
      subst h_12
      have hP : va_P D vwCl ([zo_W q az (nI 0) (pz_n x) 0 (-1) (nI 0) 0 (nI 0) 0 (nI 0) 0, zt_W q az (fun _ => 0) (fun _ => 0), zs_W q az (fun _ => 0) (fun _ => 0), zb_W q az (fun _ => 0) (fun _ => 0) (fun _ => 0) (fun _ => 0), zf_W q az (fun _ => 0) (fun _ => 0), zq_W q az (fun _ => 0) (fun _ => 0)] : wz_G).flatten H := hP
      have hD : va_D A ([zo_W q az (nI 0) (pz_n x) 0 (-1) (nI 0) 0 (nI 0) 0 (nI 0) 0, zt_W q az (fun _ => 0) (fun _ => 0), zs_W q az (fun _ => 0) (fun _ => 0), zb_W q az (fun _ => 0) (fun _ => 0) (fun _ => 0) (fun _ => 0), zf_W q az (fun _ => 0) (fun _ => 0), zq_W q az (fun _ => 0) (fun _ => 0)] : wz_G).flatten := hD
      have hQ := wz_split (n := 6) (gc := [zo_W q az (nI 0) (pz_n x) 0 (-1) (nI 0) 0 (nI 0) 0 (nI 0) 0, zs_W q az (fun _ => 0) (fun _ => 0)]) (gr := [zt_W q az (fun _ => 0) (fun _ => 0), zb_W q az (fun _ => 0) (fun _ => 0) (fun _ => 0) (fun _ => 0), zf_W q az (fun _ => 0) (fun _ => 0), zq_W q az (fun _ => 0) (fun _ => 0)]) [0, 2] [1, 3, 4, 5] rfl (by decide) rfl rfl hP hD
      refine wz_callv (va_runV (As := []) (rest := []) ⟨hx, hb, hml, hown, hts⟩ (c_Z_fresh l D q az (nI 0) (pz_n x) 0 (-1) (nI 0) 0 (nI 0) 0 (nI 0) 0 (fun _ => 0) (fun _ => 0) _) (cwV 0 hts (wz_goodV kw_457 kw_459 kw_16 kw_37 kw_460) rfl rfl rfl (by decide +kernel) ⟨Nat.le_of_ble_eq_true rfl, Nat.le_of_ble_eq_true rfl⟩) (wz_preV (gi := 0) (k := 0) hN hK hQ wz_L_ok rfl rfl rfl) rfl rfl hl.1 rfl (lv_room (Nat.le_of_ble_eq_true rfl)) d_Z_init_131 ⟨Nat.le_of_ble_eq_true rfl, Nat.le_of_ble_eq_true rfl⟩) hQ hS hA (fun gx H locs hp hP hD hS => ?_)
      obtain ⟨s1, g1, rfl, h1⟩ := hp
      obtain ⟨hP, hD⟩ := wz_ord (n := 6) (gs' := [zo_W q az (nI 0) (pz_n x) 0 (-1) (nI 0) 0 (nI 0) 0 (nI 0) 0, zt_W q az (fun _ => 0) (fun _ => 0), zs_W q az s1 g1, zb_W q az (fun _ => 0) (fun _ => 0) (fun _ => 0) (fun _ => 0), zf_W q az (fun _ => 0) (fun _ => 0), zq_W q az (fun _ => 0) (fun _ => 0)]) [0, 2, 1, 3, 4, 5] rfl (by decide) rfl hP hD
      exact wz_vret hx hb hr hlocks hK hP hD hS d_Z_init_134 ⟨az, _, _, s1, g1, _, _, _, _, _, _, _, _, rfl, rfl, h1⟩
    · skip
      refine lv_bipush (v := nI 8) hx hb d_Z_init_121 (by decide) ?_
      refine lv_goto (tgt := 127) hx hb d_Z_init_123 (by decide) ?_
      refine wz_topi (y := nI (pz_n x)) (by rw [pz_n_8 hc hc2]) ?_
      refine wz_putF (gs' := [[(o, .inr (5, [.int (nI 0), .int (nI (pz_n x)), .int (nI 0), .ref r_7, .ref r_15, .ref r_23, .ref r_31, .int (-1), .int (nI 0), .int (nI 0), .ref r_44, .ref r_52, .ref r_60, .ref r_68, .int (nI 0), .int (nI 0), .int (nI 0), .long 0, .ref r_76, .ref r_84, .ref r_92, .ref r_100]))], [(r_7, .inl (q.1, 48, .inl (fun _ => 0)))], [(r_15, .inl (q.1, 6, .inl (fun _ => 0)))], [(r_23, .inl (q.1, 8, .inl (fun _ => 0)))], [(r_31, .inl (q.1, 8, .inl (fun _ => 0)))], [(r_44, .inl (q.1, 40320, .inl (fun _ => 0)))], [(r_52, .inl (q.1, 40320, .inl (fun _ => 0)))], [(r_60, .inl (q.2.1, 40320, .inr (.inl (fun _ => 0))))], [(r_68, .inl (q.1, 65536, .inl (fun _ => 0)))], [(r_76, .inl (q.1, 40320, .inl (fun _ => 0)))], [(r_84, .inl (q.1, 40320, .inl (fun _ => 0)))], [(r_92, .inl (q.1, 8, .inl (fun _ => 0)))], [(r_100, .inl (q.1, 8, .inl (fun _ => 0)))]]) (v := .int (nI (pz_n x))) (T := T_Z) (N := 22) hx hb hts i_Z t_Z t_Z_ok n_Z hown hK hP hD hS 0 0 rfl rfl rfl 1 (by decide) (hts _ kw_466) rfl rfl hinit rfl (ty := t_Z 1) (by decide +kernel) rfl rfl (Nat.le_of_ble_eq_true rfl) d_Z_init_127 rfl (fun H locs hP hD hS => ?_)
      refine lv_aload_n hx hb d_Z_init_130 rfl (lv_at hl 0 rfl) ?_
      obtain ⟨az, h_0, h_1, h_2, h_3, h_4, h_5, h_6, h_7, h_8, h_9, h_10, h_11, h_12⟩ : ∃ az : Nat → Nat, az 0 = o ∧ az 1 = r_7 ∧ az 2 = r_15 ∧ az 3 = r_23 ∧ az 4 = r_31 ∧ az 5 = r_44 ∧ az 6 = r_52 ∧ az 7 = r_60 ∧ az 8 = r_68 ∧ az 9 = r_76 ∧ az 10 = r_84 ∧ az 11 = r_92 ∧ az 12 = r_100 := ⟨fun i => ([o, r_7, r_15, r_23, r_31, r_44, r_52, r_60, r_68, r_76, r_84, r_92, r_100] : List Nat).getD i 0, rfl, rfl, rfl, rfl, rfl, rfl, rfl, rfl, rfl, rfl, rfl, rfl, rfl⟩
      subst h_0
      subst h_1
      subst h_2
      subst h_3
      subst h_4
      subst h_5
      subst h_6
      subst h_7
      subst h_8
      subst h_9
      subst h_10
      subst h_11
      subst h_12
      have hP : va_P D vwCl ([zo_W q az (nI 0) (pz_n x) 0 (-1) (nI 0) 0 (nI 0) 0 (nI 0) 0, zt_W q az (fun _ => 0) (fun _ => 0), zs_W q az (fun _ => 0) (fun _ => 0), zb_W q az (fun _ => 0) (fun _ => 0) (fun _ => 0) (fun _ => 0), zf_W q az (fun _ => 0) (fun _ => 0), zq_W q az (fun _ => 0) (fun _ => 0)] : wz_G).flatten H := hP
      have hD : va_D A ([zo_W q az (nI 0) (pz_n x) 0 (-1) (nI 0) 0 (nI 0) 0 (nI 0) 0, zt_W q az (fun _ => 0) (fun _ => 0), zs_W q az (fun _ => 0) (fun _ => 0), zb_W q az (fun _ => 0) (fun _ => 0) (fun _ => 0) (fun _ => 0), zf_W q az (fun _ => 0) (fun _ => 0), zq_W q az (fun _ => 0) (fun _ => 0)] : wz_G).flatten := hD
      have hQ := wz_split (n := 6) (gc := [zo_W q az (nI 0) (pz_n x) 0 (-1) (nI 0) 0 (nI 0) 0 (nI 0) 0, zs_W q az (fun _ => 0) (fun _ => 0)]) (gr := [zt_W q az (fun _ => 0) (fun _ => 0), zb_W q az (fun _ => 0) (fun _ => 0) (fun _ => 0) (fun _ => 0), zf_W q az (fun _ => 0) (fun _ => 0), zq_W q az (fun _ => 0) (fun _ => 0)]) [0, 2] [1, 3, 4, 5] rfl (by decide) rfl rfl hP hD
      refine wz_callv (va_runV (As := []) (rest := []) ⟨hx, hb, hml, hown, hts⟩ (c_Z_fresh l D q az (nI 0) (pz_n x) 0 (-1) (nI 0) 0 (nI 0) 0 (nI 0) 0 (fun _ => 0) (fun _ => 0) _) (cwV 0 hts (wz_goodV kw_457 kw_459 kw_16 kw_37 kw_460) rfl rfl rfl (by decide +kernel) ⟨Nat.le_of_ble_eq_true rfl, Nat.le_of_ble_eq_true rfl⟩) (wz_preV (gi := 0) (k := 0) hN hK hQ wz_L_ok rfl rfl rfl) rfl rfl hl.1 rfl (lv_room (Nat.le_of_ble_eq_true rfl)) d_Z_init_131 ⟨Nat.le_of_ble_eq_true rfl, Nat.le_of_ble_eq_true rfl⟩) hQ hS hA (fun gx H locs hp hP hD hS => ?_)
      obtain ⟨s1, g1, rfl, h1⟩ := hp
      obtain ⟨hP, hD⟩ := wz_ord (n := 6) (gs' := [zo_W q az (nI 0) (pz_n x) 0 (-1) (nI 0) 0 (nI 0) 0 (nI 0) 0, zt_W q az (fun _ => 0) (fun _ => 0), zs_W q az s1 g1, zb_W q az (fun _ => 0) (fun _ => 0) (fun _ => 0) (fun _ => 0), zf_W q az (fun _ => 0) (fun _ => 0), zq_W q az (fun _ => 0) (fun _ => 0)]) [0, 2, 1, 3, 4, 5] rfl (by decide) rfl hP hD
      exact wz_vret hx hb hr hlocks hK hP hD hS d_Z_init_134 ⟨az, _, _, s1, g1, _, _, _, _, _, _, _, _, rfl, rfl, h1⟩
  · skip
    refine lv_iconst (v := nI 1) hx hb d_Z_init_111 (by decide) ?_
    refine lv_goto (tgt := 127) hx hb d_Z_init_112 (by decide) ?_
    refine wz_topi (y := nI (pz_n x)) (by rw [pz_n_1 hc]) ?_
    refine wz_putF (gs' := [[(o, .inr (5, [.int (nI 0), .int (nI (pz_n x)), .int (nI 0), .ref r_7, .ref r_15, .ref r_23, .ref r_31, .int (-1), .int (nI 0), .int (nI 0), .ref r_44, .ref r_52, .ref r_60, .ref r_68, .int (nI 0), .int (nI 0), .int (nI 0), .long 0, .ref r_76, .ref r_84, .ref r_92, .ref r_100]))], [(r_7, .inl (q.1, 48, .inl (fun _ => 0)))], [(r_15, .inl (q.1, 6, .inl (fun _ => 0)))], [(r_23, .inl (q.1, 8, .inl (fun _ => 0)))], [(r_31, .inl (q.1, 8, .inl (fun _ => 0)))], [(r_44, .inl (q.1, 40320, .inl (fun _ => 0)))], [(r_52, .inl (q.1, 40320, .inl (fun _ => 0)))], [(r_60, .inl (q.2.1, 40320, .inr (.inl (fun _ => 0))))], [(r_68, .inl (q.1, 65536, .inl (fun _ => 0)))], [(r_76, .inl (q.1, 40320, .inl (fun _ => 0)))], [(r_84, .inl (q.1, 40320, .inl (fun _ => 0)))], [(r_92, .inl (q.1, 8, .inl (fun _ => 0)))], [(r_100, .inl (q.1, 8, .inl (fun _ => 0)))]]) (v := .int (nI (pz_n x))) (T := T_Z) (N := 22) hx hb hts i_Z t_Z t_Z_ok n_Z hown hK hP hD hS 0 0 rfl rfl rfl 1 (by decide) (hts _ kw_466) rfl rfl hinit rfl (ty := t_Z 1) (by decide +kernel) rfl rfl (Nat.le_of_ble_eq_true rfl) d_Z_init_127 rfl (fun H locs hP hD hS => ?_)
    refine lv_aload_n hx hb d_Z_init_130 rfl (lv_at hl 0 rfl) ?_
    obtain ⟨az, h_0, h_1, h_2, h_3, h_4, h_5, h_6, h_7, h_8, h_9, h_10, h_11, h_12⟩ : ∃ az : Nat → Nat, az 0 = o ∧ az 1 = r_7 ∧ az 2 = r_15 ∧ az 3 = r_23 ∧ az 4 = r_31 ∧ az 5 = r_44 ∧ az 6 = r_52 ∧ az 7 = r_60 ∧ az 8 = r_68 ∧ az 9 = r_76 ∧ az 10 = r_84 ∧ az 11 = r_92 ∧ az 12 = r_100 := ⟨fun i => ([o, r_7, r_15, r_23, r_31, r_44, r_52, r_60, r_68, r_76, r_84, r_92, r_100] : List Nat).getD i 0, rfl, rfl, rfl, rfl, rfl, rfl, rfl, rfl, rfl, rfl, rfl, rfl, rfl⟩
    subst h_0
    subst h_1
    subst h_2
    subst h_3
    subst h_4
    subst h_5
    subst h_6
    subst h_7
    subst h_8
    subst h_9
    subst h_10
    subst h_11
    subst h_12
    have hP : va_P D vwCl ([zo_W q az (nI 0) (pz_n x) 0 (-1) (nI 0) 0 (nI 0) 0 (nI 0) 0, zt_W q az (fun _ => 0) (fun _ => 0), zs_W q az (fun _ => 0) (fun _ => 0), zb_W q az (fun _ => 0) (fun _ => 0) (fun _ => 0) (fun _ => 0), zf_W q az (fun _ => 0) (fun _ => 0), zq_W q az (fun _ => 0) (fun _ => 0)] : wz_G).flatten H := hP
    have hD : va_D A ([zo_W q az (nI 0) (pz_n x) 0 (-1) (nI 0) 0 (nI 0) 0 (nI 0) 0, zt_W q az (fun _ => 0) (fun _ => 0), zs_W q az (fun _ => 0) (fun _ => 0), zb_W q az (fun _ => 0) (fun _ => 0) (fun _ => 0) (fun _ => 0), zf_W q az (fun _ => 0) (fun _ => 0), zq_W q az (fun _ => 0) (fun _ => 0)] : wz_G).flatten := hD
    have hQ := wz_split (n := 6) (gc := [zo_W q az (nI 0) (pz_n x) 0 (-1) (nI 0) 0 (nI 0) 0 (nI 0) 0, zs_W q az (fun _ => 0) (fun _ => 0)]) (gr := [zt_W q az (fun _ => 0) (fun _ => 0), zb_W q az (fun _ => 0) (fun _ => 0) (fun _ => 0) (fun _ => 0), zf_W q az (fun _ => 0) (fun _ => 0), zq_W q az (fun _ => 0) (fun _ => 0)]) [0, 2] [1, 3, 4, 5] rfl (by decide) rfl rfl hP hD
    refine wz_callv (va_runV (As := []) (rest := []) ⟨hx, hb, hml, hown, hts⟩ (c_Z_fresh l D q az (nI 0) (pz_n x) 0 (-1) (nI 0) 0 (nI 0) 0 (nI 0) 0 (fun _ => 0) (fun _ => 0) _) (cwV 0 hts (wz_goodV kw_457 kw_459 kw_16 kw_37 kw_460) rfl rfl rfl (by decide +kernel) ⟨Nat.le_of_ble_eq_true rfl, Nat.le_of_ble_eq_true rfl⟩) (wz_preV (gi := 0) (k := 0) hN hK hQ wz_L_ok rfl rfl rfl) rfl rfl hl.1 rfl (lv_room (Nat.le_of_ble_eq_true rfl)) d_Z_init_131 ⟨Nat.le_of_ble_eq_true rfl, Nat.le_of_ble_eq_true rfl⟩) hQ hS hA (fun gx H locs hp hP hD hS => ?_)
    obtain ⟨s1, g1, rfl, h1⟩ := hp
    obtain ⟨hP, hD⟩ := wz_ord (n := 6) (gs' := [zo_W q az (nI 0) (pz_n x) 0 (-1) (nI 0) 0 (nI 0) 0 (nI 0) 0, zt_W q az (fun _ => 0) (fun _ => 0), zs_W q az s1 g1, zb_W q az (fun _ => 0) (fun _ => 0) (fun _ => 0) (fun _ => 0), zf_W q az (fun _ => 0) (fun _ => 0), zq_W q az (fun _ => 0) (fun _ => 0)]) [0, 2, 1, 3, 4, 5] rfl (by decide) rfl hP hD
    exact wz_vret hx hb hr hlocks hK hP hD hS d_Z_init_134 ⟨az, _, _, s1, g1, _, _, _, _, _, _, _, _, rfl, rfl, h1⟩
