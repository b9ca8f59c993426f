/-! MODULE Ball -/
def bl_W (q : wz_Q) (a : Nat → Nat) (mr : Nat) (gr : Nat) (fw : Nat) (cap : Nat) (fa : Nat → Int32) (wy : Nat → Int64) (re : Nat → Int32) (sz : Nat) (ly : Nat) (dp : Nat) (me : Int32) (cm : Int32) : va_W := [(a 0, .inr (2, [.ref mr, .ref gr, .int (nI fw), .ref (a 1), .ref (a 2), .ref (a 3), .int (nI sz), .int (nI ly), .int (nI dp), .int me, .int cm])), (a 1, .inl (q.1, cap, .inl fa)), (a 2, .inl (q.2.1, cap, .inr (.inl wy))), (a 3, .inl (q.1, cap, .inl re))]
theorem bl_gt_no {e d : Nat} (h : e < d) (hd : d < 2 ^ 31) : ¬ nI d - nI 1 < nI e := by
  rw [pk_sub (by omega)]
  exact nI_nlt (by omega) (by omega)
theorem bl_gt {e d : Nat} (h : d ≤ e) (hd : d < 2 ^ 31) (he : e < 2 ^ 30) : nI d - nI 1 < nI e := by
  by_cases q : d = 0
  · subst q
    have h1 : nI 0 - nI 1 = -1 := by decide
    rw [h1]
    have h2 : 0 ≤ nI e := nI_pos' (by omega)
    exact Int32.lt_of_lt_of_le (by decide) h2
  · rw [pk_sub (by omega)]
    exact nI_lt (by omega) (by omega)
theorem d_B_take_0 : decode b_B_take 0 = .ok (.aload_n 0, 1) := by decide +kernel
theorem d_B_take_1 : decode b_B_take 1 = .ok (.getfield 26, 3) := by decide +kernel
theorem d_B_take_4 : decode b_B_take 4 = .ok (.iload_n 1, 1) := by decide +kernel
theorem d_B_take_5 : decode b_B_take 5 = .ok (.iload_n 2, 1) := by decide +kernel
theorem d_B_take_6 : decode b_B_take 6 = .ok (.iastore, 1) := by decide +kernel
theorem d_B_take_7 : decode b_B_take 7 = .ok (.aload_n 0, 1) := by decide +kernel
theorem d_B_take_8 : decode b_B_take 8 = .ok (.getfield 36, 3) := by decide +kernel
theorem d_B_take_11 : decode b_B_take 11 = .ok (.iload_n 1, 1) := by decide +kernel
theorem d_B_take_12 : decode b_B_take 12 = .ok (.lconst 0, 1) := by decide +kernel
theorem d_B_take_13 : decode b_B_take 13 = .ok (.lastore, 1) := by decide +kernel
theorem d_B_take_14 : decode b_B_take 14 = .ok (.aload_n 0, 1) := by decide +kernel
theorem d_B_take_15 : decode b_B_take 15 = .ok (.getfield 40, 3) := by decide +kernel
theorem d_B_take_18 : decode b_B_take 18 = .ok (.aload_n 0, 1) := by decide +kernel
theorem d_B_take_19 : decode b_B_take 19 = .ok (.getfield 43, 3) := by decide +kernel
theorem d_B_take_22 : decode b_B_take 22 = .ok (.iload_n 1, 1) := by decide +kernel
theorem d_B_take_23 : decode b_B_take 23 = .ok (.iastore, 1) := by decide +kernel
theorem d_B_take_24 : decode b_B_take 24 = .ok (.aload_n 0, 1) := by decide +kernel
theorem d_B_take_25 : decode b_B_take 25 = .ok (.dup, 1) := by decide +kernel
theorem d_B_take_26 : decode b_B_take 26 = .ok (.getfield 43, 3) := by decide +kernel
theorem d_B_take_29 : decode b_B_take 29 = .ok (.iconst 1, 1) := by decide +kernel
theorem d_B_take_30 : decode b_B_take 30 = .ok (.iadd, 1) := by decide +kernel
theorem d_B_take_31 : decode b_B_take 31 = .ok (.putfield 43, 3) := by decide +kernel
theorem d_B_take_34 : decode b_B_take 34 = .ok (.return_, 1) := by decide +kernel
theorem d_B_begin_0 : decode b_B_begin 0 = .ok (.iconst 0, 1) := by decide +kernel
theorem d_B_begin_1 : decode b_B_begin 1 = .ok (.istore_n 3, 1) := by decide +kernel
theorem d_B_begin_2 : decode b_B_begin 2 = .ok (.iload_n 3, 1) := by decide +kernel
theorem d_B_begin_3 : decode b_B_begin 3 = .ok (.aload_n 0, 1) := by decide +kernel
theorem d_B_begin_4 : decode b_B_begin 4 = .ok (.getfield 43, 3) := by decide +kernel
theorem d_B_begin_7 : decode b_B_begin 7 = .ok (.if_icmp .ge 21, 3) := by decide +kernel
theorem d_B_begin_10 : decode b_B_begin 10 = .ok (.aload_n 0, 1) := by decide +kernel
theorem d_B_begin_11 : decode b_B_begin 11 = .ok (.getfield 26, 3) := by decide +kernel
theorem d_B_begin_14 : decode b_B_begin 14 = .ok (.aload_n 0, 1) := by decide +kernel
theorem d_B_begin_15 : decode b_B_begin 15 = .ok (.getfield 40, 3) := by decide +kernel
theorem d_B_begin_18 : decode b_B_begin 18 = .ok (.iload_n 3, 1) := by decide +kernel
theorem d_B_begin_19 : decode b_B_begin 19 = .ok (.iaload, 1) := by decide +kernel
theorem d_B_begin_20 : decode b_B_begin 20 = .ok (.iconst (-1), 1) := by decide +kernel
theorem d_B_begin_21 : decode b_B_begin 21 = .ok (.iastore, 1) := by decide +kernel
theorem d_B_begin_22 : decode b_B_begin 22 = .ok (.iinc 3 1, 3) := by decide +kernel
theorem d_B_begin_25 : decode b_B_begin 25 = .ok (.goto (-23), 3) := by decide +kernel
theorem d_B_begin_28 : decode b_B_begin 28 = .ok (.aload_n 0, 1) := by decide +kernel
theorem d_B_begin_29 : decode b_B_begin 29 = .ok (.iload_n 2, 1) := by decide +kernel
theorem d_B_begin_30 : decode b_B_begin 30 = .ok (.putfield 46, 3) := by decide +kernel
theorem d_B_begin_33 : decode b_B_begin 33 = .ok (.aload_n 0, 1) := by decide +kernel
theorem d_B_begin_34 : decode b_B_begin 34 = .ok (.iconst 0, 1) := by decide +kernel
theorem d_B_begin_35 : decode b_B_begin 35 = .ok (.putfield 43, 3) := by decide +kernel
theorem d_B_begin_38 : decode b_B_begin 38 = .ok (.aload_n 0, 1) := by decide +kernel
theorem d_B_begin_39 : decode b_B_begin 39 = .ok (.iconst 0, 1) := by decide +kernel
theorem d_B_begin_40 : decode b_B_begin 40 = .ok (.putfield 49, 3) := by decide +kernel
theorem d_B_begin_43 : decode b_B_begin 43 = .ok (.aload_n 0, 1) := by decide +kernel
theorem d_B_begin_44 : decode b_B_begin 44 = .ok (.iconst 0, 1) := by decide +kernel
theorem d_B_begin_45 : decode b_B_begin 45 = .ok (.putfield 52, 3) := by decide +kernel
theorem d_B_begin_48 : decode b_B_begin 48 = .ok (.aload_n 0, 1) := by decide +kernel
theorem d_B_begin_49 : decode b_B_begin 49 = .ok (.iconst 0, 1) := by decide +kernel
theorem d_B_begin_50 : decode b_B_begin 50 = .ok (.putfield 55, 3) := by decide +kernel
theorem d_B_begin_53 : decode b_B_begin 53 = .ok (.aload_n 0, 1) := by decide +kernel
theorem d_B_begin_54 : decode b_B_begin 54 = .ok (.iload_n 1, 1) := by decide +kernel
theorem d_B_begin_55 : decode b_B_begin 55 = .ok (.iconst 0, 1) := by decide +kernel
theorem d_B_begin_56 : decode b_B_begin 56 = .ok (.invokevirtual 59, 3) := by decide +kernel
theorem d_B_begin_59 : decode b_B_begin 59 = .ok (.aload_n 0, 1) := by decide +kernel
theorem d_B_begin_60 : decode b_B_begin 60 = .ok (.getfield 36, 3) := by decide +kernel
theorem d_B_begin_63 : decode b_B_begin 63 = .ok (.iload_n 1, 1) := by decide +kernel
theorem d_B_begin_64 : decode b_B_begin 64 = .ok (.lconst 1, 1) := by decide +kernel
theorem d_B_begin_65 : decode b_B_begin 65 = .ok (.lastore, 1) := by decide +kernel
theorem d_B_begin_66 : decode b_B_begin 66 = .ok (.return_, 1) := by decide +kernel
theorem d_B_sizeOfLastLayer_0 : decode b_B_sizeOfLastLayer 0 = .ok (.aload_n 0, 1) := by decide +kernel
theorem d_B_sizeOfLastLayer_1 : decode b_B_sizeOfLastLayer 1 = .ok (.getfield 43, 3) := by decide +kernel
theorem d_B_sizeOfLastLayer_4 : decode b_B_sizeOfLastLayer 4 = .ok (.aload_n 0, 1) := by decide +kernel
theorem d_B_sizeOfLastLayer_5 : decode b_B_sizeOfLastLayer 5 = .ok (.getfield 49, 3) := by decide +kernel
theorem d_B_sizeOfLastLayer_8 : decode b_B_sizeOfLastLayer 8 = .ok (.isub, 1) := by decide +kernel
theorem d_B_sizeOfLastLayer_9 : decode b_B_sizeOfLastLayer 9 = .ok (.ireturn, 1) := by decide +kernel
theorem d_B_lastLayerMeets_0 : decode b_B_lastLayerMeets 0 = .ok (.aload_n 0, 1) := by decide +kernel
theorem d_B_lastLayerMeets_1 : decode b_B_lastLayerMeets 1 = .ok (.getfield 49, 3) := by decide +kernel
theorem d_B_lastLayerMeets_4 : decode b_B_lastLayerMeets 4 = .ok (.istore_n 2, 1) := by decide +kernel
theorem d_B_lastLayerMeets_5 : decode b_B_lastLayerMeets 5 = .ok (.iload_n 2, 1) := by decide +kernel
theorem d_B_lastLayerMeets_6 : decode b_B_lastLayerMeets 6 = .ok (.aload_n 0, 1) := by decide +kernel
theorem d_B_lastLayerMeets_7 : decode b_B_lastLayerMeets 7 = .ok (.getfield 43, 3) := by decide +kernel
theorem d_B_lastLayerMeets_10 : decode b_B_lastLayerMeets 10 = .ok (.if_icmp .ge 26, 3) := by decide +kernel
theorem d_B_lastLayerMeets_13 : decode b_B_lastLayerMeets 13 = .ok (.aload_n 1, 1) := by decide +kernel
theorem d_B_lastLayerMeets_14 : decode b_B_lastLayerMeets 14 = .ok (.getfield 26, 3) := by decide +kernel
theorem d_B_lastLayerMeets_17 : decode b_B_lastLayerMeets 17 = .ok (.aload_n 0, 1) := by decide +kernel
theorem d_B_lastLayerMeets_18 : decode b_B_lastLayerMeets 18 = .ok (.getfield 40, 3) := by decide +kernel
theorem d_B_lastLayerMeets_21 : decode b_B_lastLayerMeets 21 = .ok (.iload_n 2, 1) := by decide +kernel
theorem d_B_lastLayerMeets_22 : decode b_B_lastLayerMeets 22 = .ok (.iaload, 1) := by decide +kernel
theorem d_B_lastLayerMeets_23 : decode b_B_lastLayerMeets 23 = .ok (.iaload, 1) := by decide +kernel
theorem d_B_lastLayerMeets_24 : decode b_B_lastLayerMeets 24 = .ok (.iconst (-1), 1) := by decide +kernel
theorem d_B_lastLayerMeets_25 : decode b_B_lastLayerMeets 25 = .ok (.if_icmp .eq 5, 3) := by decide +kernel
theorem d_B_lastLayerMeets_28 : decode b_B_lastLayerMeets 28 = .ok (.iconst 1, 1) := by decide +kernel
theorem d_B_lastLayerMeets_29 : decode b_B_lastLayerMeets 29 = .ok (.ireturn, 1) := by decide +kernel
theorem d_B_lastLayerMeets_30 : decode b_B_lastLayerMeets 30 = .ok (.iinc 2 1, 3) := by decide +kernel
theorem d_B_lastLayerMeets_33 : decode b_B_lastLayerMeets 33 = .ok (.goto (-28), 3) := by decide +kernel
theorem d_B_lastLayerMeets_36 : decode b_B_lastLayerMeets 36 = .ok (.iconst 0, 1) := by decide +kernel
theorem d_B_lastLayerMeets_37 : decode b_B_lastLayerMeets 37 = .ok (.ireturn, 1) := by decide +kernel
theorem d_B_countWithin_0 : decode b_B_countWithin 0 = .ok (.iconst 0, 1) := by decide +kernel
theorem d_B_countWithin_1 : decode b_B_countWithin 1 = .ok (.istore_n 2, 1) := by decide +kernel
theorem d_B_countWithin_2 : decode b_B_countWithin 2 = .ok (.ldc 90, 2) := by decide +kernel
theorem d_B_countWithin_4 : decode b_B_countWithin 4 = .ok (.istore_n 3, 1) := by decide +kernel
theorem d_B_countWithin_5 : decode b_B_countWithin 5 = .ok (.iload_n 3, 1) := by decide +kernel
theorem d_B_countWithin_6 : decode b_B_countWithin 6 = .ok (.ifCond .le 46, 3) := by decide +kernel
theorem d_B_countWithin_9 : decode b_B_countWithin 9 = .ok (.iload_n 2, 1) := by decide +kernel
theorem d_B_countWithin_10 : decode b_B_countWithin 10 = .ok (.iload_n 3, 1) := by decide +kernel
theorem d_B_countWithin_11 : decode b_B_countWithin 11 = .ok (.iadd, 1) := by decide +kernel
theorem d_B_countWithin_12 : decode b_B_countWithin 12 = .ok (.iconst 1, 1) := by decide +kernel
theorem d_B_countWithin_13 : decode b_B_countWithin 13 = .ok (.isub, 1) := by decide +kernel
theorem d_B_countWithin_14 : decode b_B_countWithin 14 = .ok (.istore 4, 2) := by decide +kernel
theorem d_B_countWithin_16 : decode b_B_countWithin 16 = .ok (.iload 4, 2) := by decide +kernel
theorem d_B_countWithin_18 : decode b_B_countWithin 18 = .ok (.aload_n 0, 1) := by decide +kernel
theorem d_B_countWithin_19 : decode b_B_countWithin 19 = .ok (.getfield 43, 3) := by decide +kernel
theorem d_B_countWithin_22 : decode b_B_countWithin 22 = .ok (.if_icmp .ge 23, 3) := by decide +kernel
theorem d_B_countWithin_25 : decode b_B_countWithin 25 = .ok (.aload_n 0, 1) := by decide +kernel
theorem d_B_countWithin_26 : decode b_B_countWithin 26 = .ok (.getfield 26, 3) := by decide +kernel
theorem d_B_countWithin_29 : decode b_B_countWithin 29 = .ok (.aload_n 0, 1) := by decide +kernel
theorem d_B_countWithin_30 : decode b_B_countWithin 30 = .ok (.getfield 40, 3) := by decide +kernel
theorem d_B_countWithin_33 : decode b_B_countWithin 33 = .ok (.iload 4, 2) := by decide +kernel
theorem d_B_countWithin_35 : decode b_B_countWithin 35 = .ok (.iaload, 1) := by decide +kernel
theorem d_B_countWithin_36 : decode b_B_countWithin 36 = .ok (.iaload, 1) := by decide +kernel
theorem d_B_countWithin_37 : decode b_B_countWithin 37 = .ok (.iload_n 1, 1) := by decide +kernel
theorem d_B_countWithin_38 : decode b_B_countWithin 38 = .ok (.if_icmp .gt 7, 3) := by decide +kernel
theorem d_B_countWithin_41 : decode b_B_countWithin 41 = .ok (.iload_n 2, 1) := by decide +kernel
theorem d_B_countWithin_42 : decode b_B_countWithin 42 = .ok (.iload_n 3, 1) := by decide +kernel
theorem d_B_countWithin_43 : decode b_B_countWithin 43 = .ok (.iadd, 1) := by decide +kernel
theorem d_B_countWithin_44 : decode b_B_countWithin 44 = .ok (.istore_n 2, 1) := by decide +kernel
theorem d_B_countWithin_45 : decode b_B_countWithin 45 = .ok (.iload_n 3, 1) := by decide +kernel
theorem d_B_countWithin_46 : decode b_B_countWithin 46 = .ok (.iconst 1, 1) := by decide +kernel
theorem d_B_countWithin_47 : decode b_B_countWithin 47 = .ok (.ishr, 1) := by decide +kernel
theorem d_B_countWithin_48 : decode b_B_countWithin 48 = .ok (.istore_n 3, 1) := by decide +kernel
theorem d_B_countWithin_49 : decode b_B_countWithin 49 = .ok (.goto (-44), 3) := by decide +kernel
theorem d_B_countWithin_52 : decode b_B_countWithin 52 = .ok (.iload_n 2, 1) := by decide +kernel
theorem d_B_countWithin_53 : decode b_B_countWithin 53 = .ok (.ireturn, 1) := by decide +kernel
theorem kw_35 : (Cond.initialized "TwoEndSearch$Ball" : Cond) ∈ bigW := bigW_of 35 (by decide +kernel) (by decide +kernel)
theorem kw_128 : (Cond.fieldLink "TwoEndSearch$Ball" 26 "TwoEndSearch$Ball" "far" "[I" : Cond) ∈ bigW := bigW_of 128 (by decide +kernel) (by decide +kernel)
theorem kw_130 : (Cond.fieldLink "TwoEndSearch$Ball" 36 "TwoEndSearch$Ball" "ways" "[J" : Cond) ∈ bigW := bigW_of 130 (by decide +kernel) (by decide +kernel)
theorem kw_132 : (Cond.fieldLink "TwoEndSearch$Ball" 40 "TwoEndSearch$Ball" "reached" "[I" : Cond) ∈ bigW := bigW_of 132 (by decide +kernel) (by decide +kernel)
theorem kw_134 : (Cond.fieldLink "TwoEndSearch$Ball" 43 "TwoEndSearch$Ball" "size" "I" : Cond) ∈ bigW := bigW_of 134 (by decide +kernel) (by decide +kernel)
theorem kw_136 : (Cond.fieldLink "TwoEndSearch$Ball" 49 "TwoEndSearch$Ball" "layerStart" "I" : Cond) ∈ bigW := bigW_of 136 (by decide +kernel) (by decide +kernel)
theorem kw_138 : (Cond.fieldLink "TwoEndSearch$Ball" 52 "TwoEndSearch$Ball" "depth" "I" : Cond) ∈ bigW := bigW_of 138 (by decide +kernel) (by decide +kernel)
theorem kw_141 : (Cond.fieldLink "TwoEndSearch$Ball" 46 "TwoEndSearch$Ball" "measure" "I" : Cond) ∈ bigW := bigW_of 141 (by decide +kernel) (by decide +kernel)
theorem kw_143 : (Cond.fieldLink "TwoEndSearch$Ball" 55 "TwoEndSearch$Ball" "complete" "Z" : Cond) ∈ bigW := bigW_of 143 (by decide +kernel) (by decide +kernel)
theorem kw_323 : (Cond.methodLink "TwoEndSearch$Ball" 59 ⟨"TwoEndSearch$Ball", "take", "(II)V"⟩ : Cond) ∈ bigW := bigW_of 323 (by decide +kernel) (by decide +kernel)
theorem kw_324 : (Cond.instanceMethod ⟨"TwoEndSearch$Ball", "take", "(II)V"⟩ : Cond) ∈ bigW := bigW_of 324 (by decide +kernel) (by decide +kernel)
theorem kw_325 : (Cond.selects "TwoEndSearch$Ball" ⟨"TwoEndSearch$Ball", "take", "(II)V"⟩ ⟨"TwoEndSearch$Ball", "take", "(II)V"⟩ : Cond) ∈ bigW := bigW_of 325 (by decide +kernel) (by decide +kernel)
theorem kw_326 : (Cond.code ⟨"TwoEndSearch$Ball", "take", "(II)V"⟩ prog_2_method_3_code 3 none : Cond) ∈ bigW := bigW_of 326 (by decide +kernel) (by decide +kernel)
theorem kw_422 : (Cond.constant "TwoEndSearch$Ball" 90 32768 : Cond) ∈ bigW := bigW_of 422 (by decide +kernel) (by decide +kernel)
def po_B_take (q : wz_Q) (ab : Nat → Nat) (mr gr fw cap : Nat) (fa : Nat → Int32) (wy : Nat → Int64) (re : Nat → Int32) (sz ly dp : Nat) (me cm : Int32) (i d : Nat) : wz_G → Prop := fun w => w = [bl_W q ab mr gr fw cap (upd fa i (nI d)) (vp_updL wy i 0) (upd re sz (nI i)) (sz + 1) ly dp me cm]
set_option maxHeartbeats 4000000 in
set_option maxRecDepth 100000 in
/-- a state comes into the ball -/
theorem c_B_take (l : Launch) (D : va_G) (q : wz_Q) (ab : Nat → Nat) (mr gr fw cap : Nat) (fa : Nat → Int32) (wy : Nat → Int64) (re : Nat → Int32) (sz ly dp : Nat) (me cm : Int32) (i d : Nat) (hcap : cap < 2 ^ 31) (hi : i < cap) (hsz : sz < cap) : wz_Mv l y_B_take ws_B_take ({ frames := 0, cells := 0, slots := 0, locals := 0 } : Room) D q ([.ref (ab 0), .int (nI i), .int (nI d)] : List Value) [bl_W q ab mr gr fw cap fa wy re sz ly dp me cm] (po_B_take q ab mr gr fw cap fa wy re sz ly dp me cm i d) 0 0 := by
  intro sz9
  refine wz_enter (cc := b_B_take) (maxL := 3) (ret := none) (Qc := fun A => (va_Qv (po_B_take q ab mr gr fw cap fa wy re sz ly dp me cm i d) (wz_At D q A) A)) (by decide) (Nat.le_of_ble_eq_true rfl) ?_
  intro p e s m below meth c A ls C hP hD hS hl
  obtain ⟨hx, hb, hr, hml, hlocks, hown, hts, hN, hK, hA, hnm⟩ := C
  have hown : s.vm.findClass "TwoEndSearch$Ball" = some m.cls := hown
  have hl : lv_has ls 3 [(0, .ref (ab 0)), (1, .int (nI i)), (2, .int (nI d))] := hl
  refine lv_aload_n hx hb d_B_take_0 rfl (lv_at hl 0 rfl) ?_
  refine wz_get (v := .ref (ab 1)) (T := T_B) (N := 11) hx hb hts i_B hown hK hP 0 0 rfl rfl rfl 3 (by decide) (hts _ kw_128) rfl rfl d_B_take_1 ?_
  refine lv_iload_n hx hb d_B_take_4 rfl (lv_at hl 1 rfl) ?_
  refine lv_iload_n hx hb d_B_take_5 rfl (lv_at hl 2 rfl) ?_
  refine wz_iast (gs' := [bl_W q ab mr gr fw cap (upd fa i (nI d)) wy re sz ly dp me cm]) hx hb hK hP hD hS 0 1 (j := i) rfl rfl (by omega) (by omega) d_B_take_6 rfl (fun H locs hP hD hS => ?_)
  refine lv_aload_n hx hb d_B_take_7 rfl (lv_at hl 0 rfl) ?_
  refine wz_get (v := .ref (ab 2)) (T := T_B) (N := 11) hx hb hts i_B hown hK hP 0 0 rfl rfl rfl 4 (by decide) (hts _ kw_130) rfl rfl d_B_take_8 ?_
  refine lv_iload_n hx hb d_B_take_11 rfl (lv_at hl 1 rfl) ?_
  refine lv_lconst (v := 0) hx hb d_B_take_12 rfl ?_
  refine wz_last (gs' := [bl_W q ab mr gr fw cap (upd fa i (nI d)) (vp_updL wy i 0) re sz ly dp me cm]) hx hb hK hP hD hS 0 2 (j := i) rfl rfl (by omega) (by omega) d_B_take_13 rfl (fun H locs hP hD hS => ?_)
  refine lv_aload_n hx hb d_B_take_14 rfl (lv_at hl 0 rfl) ?_
  refine wz_get (v := .ref (ab 3)) (T := T_B) (N := 11) hx hb hts i_B hown hK hP 0 0 rfl rfl rfl 5 (by decide) (hts _ kw_132) rfl rfl d_B_take_15 ?_
  refine lv_aload_n hx hb d_B_take_18 rfl (lv_at hl 0 rfl) ?_
  refine wz_get (v := .int (nI sz)) (T := T_B) (N := 11) hx hb hts i_B hown hK hP 0 0 rfl rfl rfl 6 (by decide) (hts _ kw_134) rfl rfl d_B_take_19 ?_
  refine lv_iload_n hx hb d_B_take_22 rfl (lv_at hl 1 rfl) ?_
  refine wz_iast (gs' := [bl_W q ab mr gr fw cap (upd fa i (nI d)) (vp_updL wy i 0) (upd re sz (nI i)) sz ly dp me cm]) hx hb hK hP hD hS 0 3 (j := sz) rfl rfl (by omega) (by omega) d_B_take_23 rfl (fun H locs hP hD hS => ?_)
  refine lv_aload_n hx hb d_B_take_24 rfl (lv_at hl 0 rfl) ?_
  refine lv_dup hx hb d_B_take_25 rfl ?_
  refine wz_get (v := .int (nI sz)) (T := T_B) (N := 11) hx hb hts i_B hown hK hP 0 0 rfl rfl rfl 6 (by decide) (hts _ kw_134) rfl rfl d_B_take_26 ?_
  refine lv_iconst (v := nI 1) hx hb d_B_take_29 (by decide) ?_
  refine lv_iadd hx hb d_B_take_30 ?_
  refine wz_topi (y := nI (sz + 1)) (nI_add sz 1) ?_
  refine wz_put (gs' := [bl_W q ab mr gr fw cap (upd fa i (nI d)) (vp_updL wy i 0) (upd re sz (nI i)) (sz + 1) ly dp me cm]) (v := .int (nI (sz + 1))) (T := T_B) (N := 11) hx hb hts i_B t_B t_B_ok n_B hown hK hP hD hS 0 0 rfl rfl rfl 6 (by decide) (hts _ kw_134) rfl rfl (ty := t_B 6) (by decide +kernel) rfl rfl (Nat.le_of_ble_eq_true rfl) d_B_take_31 rfl (fun H locs hP hD hS => ?_)
  exact wz_vret hx hb hr hlocks hK hP hD hS d_B_take_34 rfl
def po_B_begin (q : wz_Q) (ab : Nat → Nat) (mr gr fw cap : Nat) (fa : Nat → Int32) (wy : Nat → Int64) (re : Nat → Int32) (sz ly dp : Nat) (me cm : Int32) (i : Nat) (me2 : Int32) : wz_G → Prop := fun w => ∃ f1 : Nat → Int32, (∀ j, j < cap → f1 j = -1) ∧ w = [bl_W q ab mr gr fw cap (upd f1 i (nI 0)) (vp_updL (vp_updL wy i 0) i 1) (upd re 0 (nI i)) 1 0 0 me2 (nI 0)]
set_option maxHeartbeats 4000000 in
set_option maxRecDepth 100000 in
/-- the ball is begun around a state -/
theorem c_B_begin (l : Launch) (D : va_G) (q : wz_Q) (ab : Nat → Nat) (mr gr fw cap : Nat) (fa : Nat → Int32) (wy : Nat → Int64) (re : Nat → Int32) (sz ly dp : Nat) (me cm : Int32) (i : Nat) (me2 : Int32) (hcap : cap < 2 ^ 31) (hi : i < cap) (hraw : bl_raw cap fa re sz) : wz_Mv l y_B_begin ws_B_begin ({ frames := 1, cells := 0, slots := 0, locals := 22 } : Room) D q ([.ref (ab 0), .int (nI i), .int me2] : List Value) [bl_W q ab mr gr fw cap fa wy re sz ly dp me cm] (po_B_begin q ab mr gr fw cap fa wy re sz ly dp me cm i me2) 0 0 := by
  intro sz9
  refine wz_enter (cc := b_B_begin) (maxL := 4) (ret := none) (Qc := fun A => (va_Qv (po_B_begin q ab mr gr fw cap fa wy re sz ly dp me cm i me2) (wz_At D q A) A)) (by decide) (Nat.le_of_ble_eq_true rfl) ?_
  intro p e s m below meth c A ls C hP hD hS hl
  obtain ⟨hx, hb, hr, hml, hlocks, hown, hts, hN, hK, hA, hnm⟩ := C
  have hown : s.vm.findClass "TwoEndSearch$Ball" = some m.cls := hown
  have hl : lv_has ls 4 [(0, .ref (ab 0)), (1, .int (nI i)), (2, .int me2)] := hl
  have hszc := hraw.1
  refine lv_iconst (v := nI 0) hx hb d_B_begin_0 (by decide) ?_
  refine lv_istore_n (lv' := [(3, .int (nI 0)), (0, .ref (ab 0)), (1, .int (nI i)), (2, .int me2)]) hx hb d_B_begin_1 rfl hl (by decide) rfl (fun ls hl => ?_)
  have loop : ∀ (d : Nat) (t : Nat) (f1 : Nat → Int32), t ≤ sz → sz + 1 ≤ t + d → (∀ j, j < cap → f1 j = -1 ∨ ∃ y, t ≤ y ∧ y < sz ∧ re y = nI j) → ∀ (H : Heap) (locs : List Loc) (ls : Array Slot), va_P D vwCl ([bl_W q ab mr gr fw cap f1 wy re sz ly dp me cm] : wz_G).flatten H → va_D A ([bl_W q ab mr gr fw cap f1 wy re sz ly dp me cm] : wz_G).flatten → va_S A s.heap H locs → lv_has ls 4 [(0, .ref (ab 0)), (1, .int (nI i)), (2, .int me2), (3, .int (nI t))] → W p l e ({ frames := 1, cells := 0, slots := 0, locals := 22 } : Room) s m ([.ref (ab 0), .int (nI i), .int me2] : List Value).toArray below meth c H locs 0 0 (MQ below (va_Qv (po_B_begin q ab mr gr fw cap fa wy re sz ly dp me cm i me2) (wz_At D q A) A) ([.ref (ab 0), .int (nI i), .int me2] : List Value).toArray s 0 0 A) (F0 m 2 ls []) := by
    intro d
    induction d with
    | zero =>
      intro t f1 ht hd h1
      omega
    | succ d ih =>
      intro t f1 ht hd h1 H locs ls hP hD hS hl
      refine lv_iload_n hx hb d_B_begin_2 rfl (lv_at hl 3 rfl) ?_
      refine lv_aload_n hx hb d_B_begin_3 rfl (lv_at hl 0 rfl) ?_
      refine wz_get (v := .int (nI sz)) (T := T_B) (N := 11) hx hb hts i_B hown hK hP 0 0 rfl rfl rfl 6 (by decide) (hts _ kw_134) rfl rfl d_B_begin_4 ?_
      refine wz_ge (tgt := 28) hx hb d_B_begin_7 (by decide) (by omega) (by omega) (fun hc => ?_) (fun hc => ?_)
      · skip
        refine lv_aload_n hx hb d_B_begin_28 rfl (lv_at hl 0 rfl) ?_
        refine lv_iload_n hx hb d_B_begin_29 rfl (lv_at hl 2 rfl) ?_
        refine wz_put (gs' := [bl_W q ab mr gr fw cap f1 wy re sz ly dp me2 cm]) (v := .int me2) (T := T_B) (N := 11) hx hb hts i_B t_B t_B_ok n_B hown hK hP hD hS 0 0 rfl rfl rfl 9 (by decide) (hts _ kw_141) rfl rfl (ty := t_B 9) (by decide +kernel) rfl rfl (Nat.le_of_ble_eq_true rfl) d_B_begin_30 rfl (fun H locs hP hD hS => ?_)
        refine lv_aload_n hx hb d_B_begin_33 rfl (lv_at hl 0 rfl) ?_
        refine lv_iconst (v := nI 0) hx hb d_B_begin_34 (by decide) ?_
        refine wz_put (gs' := [bl_W q ab mr gr fw cap f1 wy re 0 ly dp me2 cm]) (v := .int (nI 0)) (T := T_B) (N := 11) hx hb hts i_B t_B t_B_ok n_B hown hK hP hD hS 0 0 rfl rfl rfl 6 (by decide) (hts _ kw_134) rfl rfl (ty := t_B 6) (by decide +kernel) rfl rfl (Nat.le_of_ble_eq_true rfl) d_B_begin_35 rfl (fun H locs hP hD hS => ?_)
        refine lv_aload_n hx hb d_B_begin_38 rfl (lv_at hl 0 rfl) ?_
        refine lv_iconst (v := nI 0) hx hb d_B_begin_39 (by decide) ?_
        refine wz_put (gs' := [bl_W q ab mr gr fw cap f1 wy re 0 0 dp me2 cm]) (v := .int (nI 0)) (T := T_B) (N := 11) hx hb hts i_B t_B t_B_ok n_B hown hK hP hD hS 0 0 rfl rfl rfl 7 (by decide) (hts _ kw_136) rfl rfl (ty := t_B 7) (by decide +kernel) rfl rfl (Nat.le_of_ble_eq_true rfl) d_B_begin_40 rfl (fun H locs hP hD hS => ?_)
        refine lv_aload_n hx hb d_B_begin_43 rfl (lv_at hl 0 rfl) ?_
        refine lv_iconst (v := nI 0) hx hb d_B_begin_44 (by decide) ?_
        refine wz_put (gs' := [bl_W q ab mr gr fw cap f1 wy re 0 0 0 me2 cm]) (v := .int (nI 0)) (T := T_B) (N := 11) hx hb hts i_B t_B t_B_ok n_B hown hK hP hD hS 0 0 rfl rfl rfl 8 (by decide) (hts _ kw_138) rfl rfl (ty := t_B 8) (by decide +kernel) rfl rfl (Nat.le_of_ble_eq_true rfl) d_B_begin_45 rfl (fun H locs hP hD hS => ?_)
        refine lv_aload_n hx hb d_B_begin_48 rfl (lv_at hl 0 rfl) ?_
        refine lv_iconst (v := nI 0) hx hb d_B_begin_49 (by decide) ?_
        refine wz_put (gs' := [bl_W q ab mr gr fw cap f1 wy re 0 0 0 me2 (nI 0)]) (v := .int (nI 0)) (T := T_B) (N := 11) hx hb hts i_B t_B t_B_ok n_B hown hK hP hD hS 0 0 rfl rfl rfl 10 (by decide) (hts _ kw_143) rfl rfl (ty := t_B 10) (by decide +kernel) rfl rfl (Nat.le_of_ble_eq_true rfl) d_B_begin_50 rfl (fun H locs hP hD hS => ?_)
        refine lv_aload_n hx hb d_B_begin_53 rfl (lv_at hl 0 rfl) ?_
        refine lv_iload_n hx hb d_B_begin_54 rfl (lv_at hl 1 rfl) ?_
        refine lv_iconst (v := nI 0) hx hb d_B_begin_55 (by decide) ?_
        have hQ := wz_split (n := 1) (gc := [bl_W q ab mr gr fw cap f1 wy re 0 0 0 me2 (nI 0)]) (gr := []) [0] [] rfl (by decide) rfl rfl hP hD
        refine wz_callv (va_runV (As := [.int (nI i), .int (nI 0)]) (rest := []) ⟨hx, hb, hml, hown, hts⟩ (c_B_take l D q ab mr gr fw cap f1 wy re 0 0 0 me2 (nI 0) i 0 hcap hi (by omega) _) (cwV 2 hts (wz_goodV kw_323 kw_324 kw_325 kw_35 kw_326) rfl rfl rfl (by decide +kernel) ⟨Nat.le_of_ble_eq_true rfl, Nat.le_of_ble_eq_true rfl⟩) (wz_preV (gi := 0) (k := 0) hN hK hQ wz_L_ok rfl rfl rfl) rfl rfl hl.1 rfl (lv_room (Nat.le_of_ble_eq_true rfl)) d_B_begin_56 ⟨Nat.le_of_ble_eq_true rfl, Nat.le_of_ble_eq_true rfl⟩) hQ hS hA (fun gx H locs hp hP hD hS => ?_)
        have hp : gx = _ := hp
        subst hp
        obtain ⟨hP, hD⟩ := wz_ord (n := 1) (gs' := [bl_W q ab mr gr fw cap (upd f1 i (nI 0)) (vp_updL wy i 0) (upd re 0 (nI i)) (0 + 1) 0 0 me2 (nI 0)]) [0] rfl (by decide) rfl hP hD
        refine lv_aload_n hx hb d_B_begin_59 rfl (lv_at hl 0 rfl) ?_
        refine wz_get (v := .ref (ab 2)) (T := T_B) (N := 11) hx hb hts i_B hown hK hP 0 0 rfl rfl rfl 4 (by decide) (hts _ kw_130) rfl rfl d_B_begin_60 ?_
        refine lv_iload_n hx hb d_B_begin_63 rfl (lv_at hl 1 rfl) ?_
        refine lv_lconst (v := 1) hx hb d_B_begin_64 rfl ?_
        refine wz_last (gs' := [bl_W q ab mr gr fw cap (upd f1 i (nI 0)) (vp_updL (vp_updL wy i 0) i 1) (upd re 0 (nI i)) (0 + 1) 0 0 me2 (nI 0)]) hx hb hK hP hD hS 0 2 (j := i) rfl rfl (by omega) (by omega) d_B_begin_65 rfl (fun H locs hP hD hS => ?_)
        exact wz_vret hx hb hr hlocks hK hP hD hS d_B_begin_66 ⟨f1, fun j hj => (h1 j hj).resolve_right (fun ⟨y, q1, q2, _⟩ => by omega), rfl⟩
      · skip
        obtain ⟨j0, hj0, ej0⟩ := hraw.2.1 t hc
        refine lv_aload_n hx hb d_B_begin_10 rfl (lv_at hl 0 rfl) ?_
        refine wz_get (v := .ref (ab 1)) (T := T_B) (N := 11) hx hb hts i_B hown hK hP 0 0 rfl rfl rfl 3 (by decide) (hts _ kw_128) rfl rfl d_B_begin_11 ?_
        refine lv_aload_n hx hb d_B_begin_14 rfl (lv_at hl 0 rfl) ?_
        refine wz_get (v := .ref (ab 3)) (T := T_B) (N := 11) hx hb hts i_B hown hK hP 0 0 rfl rfl rfl 5 (by decide) (hts _ kw_132) rfl rfl d_B_begin_15 ?_
        refine lv_iload_n hx hb d_B_begin_18 rfl (lv_at hl 3 rfl) ?_
        refine wz_iald hx hb hK hP 0 3 (j := t) rfl rfl (by omega) (by omega) d_B_begin_19 ?_
        refine wz_topi (y := nI j0) ej0 ?_
        refine lv_iconst (v := (-1)) hx hb d_B_begin_20 (by decide) ?_
        refine wz_iast (gs' := [bl_W q ab mr gr fw cap (upd f1 j0 (-1)) wy re sz ly dp me cm]) hx hb hK hP hD hS 0 1 (j := j0) rfl rfl (by omega) (by omega) d_B_begin_21 rfl (fun H locs hP hD hS => ?_)
        refine lv_iinc (v := nI (t + 1)) (lv' := [(3, .int (nI (t + 1))), (0, .ref (ab 0)), (1, .int (nI i)), (2, .int me2)]) hx hb d_B_begin_22 hl (k := 3) rfl (nI_1 t) (by decide) rfl (fun ls hl => ?_)
        refine lv_goto (tgt := 2) hx hb d_B_begin_25 (by decide) ?_
        exact ih (t + 1) (upd f1 j0 (-1)) (by omega) (by omega) (fun j hj => by
          by_cases e0 : j = j0
          · subst e0; rw [pk_us]; exact Or.inl rfl
          · rw [pk_un e0]
            rcases h1 j hj with q | ⟨y, q1, q2, q3⟩
            · exact Or.inl q
            · refine Or.inr ⟨y, ?_, q2, q3⟩
              by_cases e1 : y = t
              · subst e1; rw [ej0] at q3; exact absurd ((nI_eq (by omega) (by omega)).mp q3).symm e0
              · omega) _ _ _ hP hD hS (lv_sub hl [1, 2, 3, 0] rfl)
  exact loop (sz + 1) 0 fa (by omega) (by omega) (fun j hj => by rcases hraw.2.2 j hj with q | ⟨y, q1, q2⟩; (exact Or.inl q); exact Or.inr ⟨y, by omega, q1, q2⟩) _ _ _ hP hD hS (lv_sub hl [1, 2, 3, 0] rfl)
def po_B_sizeOfLastLayer (q : wz_Q) (ab : Nat → Nat) (mr gr fw cap : Nat) (fa : Nat → Int32) (wy : Nat → Int64) (re : Nat → Int32) (sz ly dp : Nat) (me cm : Int32) : Int32 → wz_G → Prop := fun v w => w = [bl_W q ab mr gr fw cap fa wy re sz ly dp me cm] ∧ v = nI (sz - ly)
set_option maxHeartbeats 4000000 in
set_option maxRecDepth 100000 in
/-- how many lie farthest -/
theorem c_B_sizeOfLastLayer (l : Launch) (D : va_G) (q : wz_Q) (ab : Nat → Nat) (mr gr fw cap : Nat) (fa : Nat → Int32) (wy : Nat → Int64) (re : Nat → Int32) (sz ly dp : Nat) (me cm : Int32) (hly : ly ≤ sz) : wz_Mi l y_B_sizeOfLastLayer ws_B_sizeOfLastLayer ({ frames := 0, cells := 0, slots := 0, locals := 0 } : Room) D q ([.ref (ab 0)] : List Value) [bl_W q ab mr gr fw cap fa wy re sz ly dp me cm] (po_B_sizeOfLastLayer q ab mr gr fw cap fa wy re sz ly dp me cm) 0 0 := by
  intro sz9
  refine wz_enter (cc := b_B_sizeOfLastLayer) (maxL := 1) (ret := (some .int)) (Qc := fun A => (va_Qi (po_B_sizeOfLastLayer q ab mr gr fw cap fa wy re sz ly dp me cm) (wz_At D q A) A)) (by decide) (Nat.le_of_ble_eq_true rfl) ?_
  intro p e s m below meth c A ls C hP hD hS hl
  obtain ⟨hx, hb, hr, hml, hlocks, hown, hts, hN, hK, hA, hnm⟩ := C
  have hown : s.vm.findClass "TwoEndSearch$Ball" = some m.cls := hown
  have hl : lv_has ls 1 [(0, .ref (ab 0))] := hl
  refine lv_aload_n hx hb d_B_sizeOfLastLayer_0 rfl (lv_at hl 0 rfl) ?_
  refine wz_get (v := .int (nI sz)) (T := T_B) (N := 11) hx hb hts i_B hown hK hP 0 0 rfl rfl rfl 6 (by decide) (hts _ kw_134) rfl rfl d_B_sizeOfLastLayer_1 ?_
  refine lv_aload_n hx hb d_B_sizeOfLastLayer_4 rfl (lv_at hl 0 rfl) ?_
  refine wz_get (v := .int (nI ly)) (T := T_B) (N := 11) hx hb hts i_B hown hK hP 0 0 rfl rfl rfl 7 (by decide) (hts _ kw_136) rfl rfl d_B_sizeOfLastLayer_5 ?_
  refine lv_isub hx hb d_B_sizeOfLastLayer_8 ?_
  refine wz_topi (y := nI (sz - ly)) (pk_sub hly) ?_
  exact wz_iret hx hb hr hlocks hK hP hD hS d_B_sizeOfLastLayer_9 ⟨rfl, rfl⟩
def po_B_lastLayerMeets (q : wz_Q) (ab ac : Nat → Nat) (mr gr fw cap : Nat) (fa : Nat → Int32) (wy : Nat → Int64) (re : Nat → Int32) (ly dp : Nat) (me cm : Int32) (fw2 : Nat) (fa2 : Nat → Int32) (wy2 : Nat → Int64) (re2 : Nat → Int32) (sz2 ly2 dp2 : Nat) (me2 cm2 : Int32) (G : List Nat) (S T : pz_S) : Int32 → wz_G → Prop := fun v w => w = [bl_W q ab mr gr fw cap fa wy re S.1.length ly dp me cm, bl_W q ac mr gr fw2 cap fa2 wy2 re2 sz2 ly2 dp2 me2 cm2] ∧ wz_bit v (∃ i x, ly ≤ i ∧ S.1[i]? = some x ∧ T.2.1 x ≠ none)
set_option maxHeartbeats 4000000 in
set_option maxRecDepth 100000 in
/-- whether a state of the last layer is known to another ball -/
theorem c_B_lastLayerMeets (l : Launch) (D : va_G) (q : wz_Q) (ab ac : Nat → Nat) (mr gr fw cap : Nat) (fa : Nat → Int32) (wy : Nat → Int64) (re : Nat → Int32) (ly dp : Nat) (me cm : Int32) (fw2 : Nat) (fa2 : Nat → Int32) (wy2 : Nat → Int64) (re2 : Nat → Int32) (sz2 ly2 dp2 : Nat) (me2 cm2 : Int32) (G : List Nat) (S T : pz_S) (hcap : cap < 2 ^ 31) (hGc : G.length ≤ cap) (hly : ly ≤ S.1.length) (hS1 : bl_ok cap G S fa wy re) (hT1 : bl_ok cap G T fa2 wy2 re2) (hTl : ∀ x e, T.2.1 x = some e → e < 2 ^ 30) : wz_Mi l y_B_lastLayerMeets ws_B_lastLayerMeets ({ frames := 0, cells := 0, slots := 0, locals := 0 } : Room) D q ([.ref (ab 0), .ref (ac 0)] : List Value) [bl_W q ab mr gr fw cap fa wy re S.1.length ly dp me cm, bl_W q ac mr gr fw2 cap fa2 wy2 re2 sz2 ly2 dp2 me2 cm2] (po_B_lastLayerMeets q ab ac mr gr fw cap fa wy re ly dp me cm fw2 fa2 wy2 re2 sz2 ly2 dp2 me2 cm2 G S T) 0 0 := by
  intro sz9
  refine wz_enter (cc := b_B_lastLayerMeets) (maxL := 3) (ret := (some .boolean)) (Qc := fun A => (va_Qi (po_B_lastLayerMeets q ab ac mr gr fw cap fa wy re ly dp me cm fw2 fa2 wy2 re2 sz2 ly2 dp2 me2 cm2 G S T) (wz_At D q A) A)) (by decide) (Nat.le_of_ble_eq_true rfl) ?_
  intro p e s m below meth c A ls C hP hD hS hl
  obtain ⟨hx, hb, hr, hml, hlocks, hown, hts, hN, hK, hA, hnm⟩ := C
  have hown : s.vm.findClass "TwoEndSearch$Ball" = some m.cls := hown
  have hl : lv_has ls 3 [(0, .ref (ab 0)), (1, .ref (ac 0))] := hl
  have hSl := bl_len hS1
  refine lv_aload_n hx hb d_B_lastLayerMeets_0 rfl (lv_at hl 0 rfl) ?_
  refine wz_get (v := .int (nI ly)) (T := T_B) (N := 11) hx hb hts i_B hown hK hP 0 0 rfl rfl rfl 7 (by decide) (hts _ kw_136) rfl rfl d_B_lastLayerMeets_1 ?_
  refine lv_istore_n (lv' := [(2, .int (nI ly)), (0, .ref (ab 0)), (1, .ref (ac 0))]) hx hb d_B_lastLayerMeets_4 rfl hl (by decide) rfl (fun ls hl => ?_)
  have loop : ∀ (d : Nat) (t : Nat), t ≤ S.1.length → ly ≤ t → S.1.length + 1 ≤ t + d → (∀ i x, ly ≤ i → i < t → S.1[i]? = some x → T.2.1 x = none) → ∀ (H : Heap) (locs : List Loc) (ls : Array Slot), va_P D vwCl ([bl_W q ab mr gr fw cap fa wy re S.1.length ly dp me cm, bl_W q ac mr gr fw2 cap fa2 wy2 re2 sz2 ly2 dp2 me2 cm2] : wz_G).flatten H → va_D A ([bl_W q ab mr gr fw cap fa wy re S.1.length ly dp me cm, bl_W q ac mr gr fw2 cap fa2 wy2 re2 sz2 ly2 dp2 me2 cm2] : wz_G).flatten → va_S A s.heap H locs → lv_has ls 3 [(0, .ref (ab 0)), (1, .ref (ac 0)), (2, .int (nI t))] → W p l e ({ frames := 0, cells := 0, slots := 0, locals := 0 } : Room) s m ([.ref (ab 0), .ref (ac 0)] : List Value).toArray below meth c H locs 0 0 (MQ below (va_Qi (po_B_lastLayerMeets q ab ac mr gr fw cap fa wy re ly dp me cm fw2 fa2 wy2 re2 sz2 ly2 dp2 me2 cm2 G S T) (wz_At D q A) A) ([.ref (ab 0), .ref (ac 0)] : List Value).toArray s 0 0 A) (F0 m 5 ls []) := by
    intro d
    induction d with
    | zero =>
      intro t ht ht2 hd h1
      omega
    | succ d ih =>
      intro t ht ht2 hd h1 H locs ls hP hD hS hl
      refine lv_iload_n hx hb d_B_lastLayerMeets_5 rfl (lv_at hl 2 rfl) ?_
      refine lv_aload_n hx hb d_B_lastLayerMeets_6 rfl (lv_at hl 0 rfl) ?_
      refine wz_get (v := .int (nI S.1.length)) (T := T_B) (N := 11) hx hb hts i_B hown hK hP 0 0 rfl rfl rfl 6 (by decide) (hts _ kw_134) rfl rfl d_B_lastLayerMeets_7 ?_
      refine wz_ge (tgt := 36) hx hb d_B_lastLayerMeets_10 (by decide) (by omega) (by omega) (fun hc => ?_) (fun hc => ?_)
      · skip
        refine lv_iconst (v := nI 0) hx hb d_B_lastLayerMeets_36 (by decide) ?_
        exact wz_zret hx hb hr hlocks hK hP hD hS d_B_lastLayerMeets_37 (by first | exact Or.inl rfl | exact Or.inr rfl) ⟨rfl, Or.inr ⟨rfl, fun ⟨i, x, q1, q2, q3⟩ => q3 (h1 i x q1 (by have := (List.getElem?_eq_some_iff.mp q2).1; omega) q2)⟩⟩
      · skip
        obtain ⟨x, hgx⟩ : ∃ x, S.1[t]? = some x := ⟨_, List.getElem?_eq_getElem hc⟩
        obtain ⟨j, ej, hj⟩ := hS1.2.2.2 t x hgx
        have hjl := (List.getElem?_eq_some_iff.mp hj).1
        refine lv_aload_n hx hb d_B_lastLayerMeets_13 rfl (lv_at hl 1 rfl) ?_
        refine wz_get (v := .ref (ac 1)) (T := T_B) (N := 11) hx hb hts i_B hown hK hP 1 0 rfl rfl rfl 3 (by decide) (hts _ kw_128) rfl rfl d_B_lastLayerMeets_14 ?_
        refine lv_aload_n hx hb d_B_lastLayerMeets_17 rfl (lv_at hl 0 rfl) ?_
        refine wz_get (v := .ref (ab 3)) (T := T_B) (N := 11) hx hb hts i_B hown hK hP 0 0 rfl rfl rfl 5 (by decide) (hts _ kw_132) rfl rfl d_B_lastLayerMeets_18 ?_
        refine lv_iload_n hx hb d_B_lastLayerMeets_21 rfl (lv_at hl 2 rfl) ?_
        refine wz_iald hx hb hK hP 0 3 (j := t) rfl rfl (by omega) (by omega) d_B_lastLayerMeets_22 ?_
        refine wz_topi (y := nI j) ej ?_
        refine wz_iald hx hb hK hP 1 1 (j := j) rfl rfl (by omega) (by omega) d_B_lastLayerMeets_23 ?_
        refine wz_topi (y := (bl_fo (T.2.1 x))) (hT1.2.1 j x hj).1 ?_
        refine lv_iconst (v := (-1)) hx hb d_B_lastLayerMeets_24 (by decide) ?_
        refine lv_icmp_eq (tgt := 30) hx hb d_B_lastLayerMeets_25 (by decide) (fun hc2 => ?_) (fun hc2 => ?_)
        · skip
          refine lv_iinc (v := nI (t + 1)) (lv' := [(2, .int (nI (t + 1))), (0, .ref (ab 0)), (1, .ref (ac 0))]) hx hb d_B_lastLayerMeets_30 hl (k := 2) rfl (nI_1 t) (by decide) rfl (fun ls hl => ?_)
          refine lv_goto (tgt := 5) hx hb d_B_lastLayerMeets_33 (by decide) ?_
          exact ih (t + 1) (by omega) (by omega) (by omega) (fun i z q1 q2 q3 => by
            by_cases e0 : i = t
            · subst e0
              have : z = x := Option.some.inj (q3.symm.trans hgx)
              subst this
              exact (bl_fo_n (fun e => hTl z e)).mp hc2
            · exact h1 i z q1 (by omega) q3) _ _ _ hP hD hS (lv_sub hl [1, 2, 0] rfl)
        · skip
          refine lv_iconst (v := nI 1) hx hb d_B_lastLayerMeets_28 (by decide) ?_
          exact wz_zret hx hb hr hlocks hK hP hD hS d_B_lastLayerMeets_29 (by first | exact Or.inl rfl | exact Or.inr rfl) ⟨rfl, Or.inl ⟨rfl, t, x, ht2, hgx, fun q => hc2 ((bl_fo_n (fun e => hTl x e)).mpr q)⟩⟩
  exact loop (S.1.length + 1) ly (by omega) (by omega) (by omega) (fun i x q1 q2 => by omega) _ _ _ hP hD hS (lv_sub hl [1, 2, 0] rfl)
def po_B_countWithin (q : wz_Q) (ab : Nat → Nat) (mr gr fw cap : Nat) (fa : Nat → Int32) (wy : Nat → Int64) (re : Nat → Int32) (ly dp : Nat) (me cm : Int32) (G : List Nat) (S : pz_S) (dd mm : Nat) : Int32 → wz_G → Prop := fun v w => w = [bl_W q ab mr gr fw cap fa wy re S.1.length ly dp me cm] ∧ v = nI mm
set_option maxHeartbeats 4000000 in
set_option maxRecDepth 100000 in
/-- how many lie nearer than dd -/
theorem c_B_countWithin (l : Launch) (D : va_G) (q : wz_Q) (ab : Nat → Nat) (mr gr fw cap : Nat) (fa : Nat → Int32) (wy : Nat → Int64) (re : Nat → Int32) (ly dp : Nat) (me cm : Int32) (G : List Nat) (S : pz_S) (dd mm : Nat) (hcap : cap ≤ 40320) (hGc : G.length ≤ cap) (hS1 : bl_ok cap G S fa wy re) (hSl : ∀ x e, S.2.1 x = some e → e < 2 ^ 30) (hdd : dd < 2 ^ 31) (hcw : bl_cw S dd mm) : wz_Mi l y_B_countWithin ws_B_countWithin ({ frames := 0, cells := 0, slots := 0, locals := 0 } : Room) D q ([.ref (ab 0), .int (nI dd - nI 1)] : List Value) [bl_W q ab mr gr fw cap fa wy re S.1.length ly dp me cm] (po_B_countWithin q ab mr gr fw cap fa wy re ly dp me cm G S dd mm) 0 0 := by
  intro sz9
  refine wz_enter (cc := b_B_countWithin) (maxL := 5) (ret := (some .int)) (Qc := fun A => (va_Qi (po_B_countWithin q ab mr gr fw cap fa wy re ly dp me cm G S dd mm) (wz_At D q A) A)) (by decide) (Nat.le_of_ble_eq_true rfl) ?_
  intro p e s m below meth c A ls C hP hD hS hl
  obtain ⟨hx, hb, hr, hml, hlocks, hown, hts, hN, hK, hA, hnm⟩ := C
  have hown : s.vm.findClass "TwoEndSearch$Ball" = some m.cls := hown
  have hl : lv_has ls 5 [(0, .ref (ab 0)), (1, .int (nI dd - nI 1))] := hl
  have hSn := bl_len hS1
  have hmm := hcw.1
  refine lv_iconst (v := nI 0) hx hb d_B_countWithin_0 (by decide) ?_
  refine lv_istore_n (lv' := [(2, .int (nI 0)), (0, .ref (ab 0)), (1, .int (nI dd - nI 1))]) hx hb d_B_countWithin_1 rfl hl (by decide) rfl (fun ls hl => ?_)
  refine lv_ldc (v := nI 32768) hx hb hown (hts _ kw_422) d_B_countWithin_2 ?_
  refine lv_istore_n (lv' := [(3, .int (nI 32768)), (2, .int (nI 0)), (0, .ref (ab 0)), (1, .int (nI dd - nI 1))]) hx hb d_B_countWithin_4 rfl hl (by decide) rfl (fun ls hl => ?_)
  have loop : ∀ (d : Nat) (e9 wn : Nat), e9 < d → e9 ≤ 16 → wn ≤ mm → mm < wn + 2 ^ e9 → ∀ (H : Heap) (locs : List Loc) (ls : Array Slot), va_P D vwCl ([bl_W q ab mr gr fw cap fa wy re S.1.length ly dp me cm] : wz_G).flatten H → va_D A ([bl_W q ab mr gr fw cap fa wy re S.1.length ly dp me cm] : wz_G).flatten → va_S A s.heap H locs → lv_has ls 5 [(0, .ref (ab 0)), (1, .int (nI dd - nI 1)), (2, .int (nI wn)), (3, .int (nI (2 ^ e9 / 2)))] → W p l e ({ frames := 0, cells := 0, slots := 0, locals := 0 } : Room) s m ([.ref (ab 0), .int (nI dd - nI 1)] : List Value).toArray below meth c H locs 0 0 (MQ below (va_Qi (po_B_countWithin q ab mr gr fw cap fa wy re ly dp me cm G S dd mm) (wz_At D q A) A) ([.ref (ab 0), .int (nI dd - nI 1)] : List Value).toArray s 0 0 A) (F0 m 5 ls []) := by
    intro d
    induction d with
    | zero =>
      intro e9 wn hd he h1 h2
      omega
    | succ d ih =>
      intro e9 wn hd he h1 h2 H locs ls hP hD hS hl
      have hpw : 2 ^ e9 ≤ 2 ^ 16 := Nat.pow_le_pow_right (by decide) he
      refine lv_iload_n hx hb d_B_countWithin_5 rfl (lv_at hl 3 rfl) ?_
      refine lv_if_le (tgt := 52) hx hb d_B_countWithin_6 (by decide) (fun hc => ?_) (fun hc => ?_)
      · skip
        have he0 : e9 = 0 := by
          by_cases e0 : e9 = 0
          · exact e0
          · obtain ⟨e8, rfl⟩ : ∃ e8, e9 = e8 + 1 := ⟨e9 - 1, by omega⟩
            have hp2 : 0 < 2 ^ e8 := Nat.pow_pos (by decide)
            rw [Nat.pow_succ, Nat.mul_div_cancel _ (by decide)] at hc
            rw [Nat.pow_succ] at hpw
            exact absurd hc (nI_nle hp2 (by omega))
        subst he0
        have : wn = mm := by omega
        subst this
        refine lv_iload_n hx hb d_B_countWithin_52 rfl (lv_at hl 2 rfl) ?_
        exact wz_iret hx hb hr hlocks hK hP hD hS d_B_countWithin_53 ⟨rfl, rfl⟩
      · skip
        have he0 : e9 ≠ 0 := fun e0 => hc (by rw [e0]; decide)
        obtain ⟨e8, rfl⟩ : ∃ e8, e9 = e8 + 1 := ⟨e9 - 1, by omega⟩
        have hp2 : 0 < 2 ^ e8 := Nat.pow_pos (by decide)
        have hq : 2 ^ (e8 + 1) / 2 = 2 ^ e8 := by rw [Nat.pow_succ, Nat.mul_div_cancel _ (by decide)]
        rw [Nat.pow_succ] at h2 hpw
        rw [hq] at hl
        refine lv_iload_n hx hb d_B_countWithin_9 rfl (lv_at hl 2 rfl) ?_
        refine lv_iload_n hx hb d_B_countWithin_10 rfl (lv_at hl 3 rfl) ?_
        refine lv_iadd hx hb d_B_countWithin_11 ?_
        refine wz_topi (y := nI (wn + (2 ^ e8))) (nI_add wn (2 ^ e8)) ?_
        refine lv_iconst (v := nI 1) hx hb d_B_countWithin_12 (by decide) ?_
        refine lv_isub hx hb d_B_countWithin_13 ?_
        refine wz_topi (y := nI (wn + 2 ^ e8 - 1)) (pk_sub (by omega)) ?_
        refine lv_istore (lv' := [(4, .int (nI (wn + 2 ^ e8 - 1))), (0, .ref (ab 0)), (1, .int (nI dd - nI 1)), (2, .int (nI wn)), (3, .int (nI (2 ^ e8)))]) hx hb d_B_countWithin_14 hl (by decide) rfl (fun ls hl => ?_)
        refine lv_iload hx hb d_B_countWithin_16 (lv_at hl 0 rfl) ?_
        refine lv_aload_n hx hb d_B_countWithin_18 rfl (lv_at hl 1 rfl) ?_
        refine wz_get (v := .int (nI S.1.length)) (T := T_B) (N := 11) hx hb hts i_B hown hK hP 0 0 rfl rfl rfl 6 (by decide) (hts _ kw_134) rfl rfl d_B_countWithin_19 ?_
        refine wz_ge (tgt := 45) hx hb d_B_countWithin_22 (by decide) (by omega) (by omega) (fun hc2 => ?_) (fun hc2 => ?_)
        · skip
          refine lv_iload_n hx hb d_B_countWithin_45 rfl (lv_at hl 4 rfl) ?_
          refine lv_iconst (v := nI 1) hx hb d_B_countWithin_46 (by decide) ?_
          refine lv_ishr hx hb d_B_countWithin_47 ?_
          refine wz_topi (y := nI (2 ^ e8 / 2)) (pk_shrN (by omega) _ 1 (by decide)) ?_
          refine lv_istore_n (lv' := [(3, .int (nI (2 ^ e8 / 2))), (4, .int (nI (wn + 2 ^ e8 - 1))), (0, .ref (ab 0)), (1, .int (nI dd - nI 1)), (2, .int (nI wn))]) hx hb d_B_countWithin_48 rfl hl (by decide) rfl (fun ls hl => ?_)
          refine lv_goto (tgt := 5) hx hb d_B_countWithin_49 (by decide) ?_
          exact ih e8 wn (by omega) (by omega) h1 (by omega) _ _ _ hP hD hS (lv_sub hl [2, 3, 4, 0] rfl)
        · skip
          obtain ⟨x, hgx⟩ : ∃ x, S.1[wn + 2 ^ e8 - 1]? = some x := ⟨_, List.getElem?_eq_getElem hc2⟩
          obtain ⟨j, ej, hj⟩ := hS1.2.2.2 _ x hgx
          have hjl := (List.getElem?_eq_some_iff.mp hj).1
          obtain ⟨e7, he7⟩ := pz_mem_far hS1.1 (List.mem_of_getElem? hgx)
          have he7l := hSl x e7 he7
          refine lv_aload_n hx hb d_B_countWithin_25 rfl (lv_at hl 1 rfl) ?_
          refine wz_get (v := .ref (ab 1)) (T := T_B) (N := 11) hx hb hts i_B hown hK hP 0 0 rfl rfl rfl 3 (by decide) (hts _ kw_128) rfl rfl d_B_countWithin_26 ?_
          refine lv_aload_n hx hb d_B_countWithin_29 rfl (lv_at hl 1 rfl) ?_
          refine wz_get (v := .ref (ab 3)) (T := T_B) (N := 11) hx hb hts i_B hown hK hP 0 0 rfl rfl rfl 5 (by decide) (hts _ kw_132) rfl rfl d_B_countWithin_30 ?_
          refine lv_iload hx hb d_B_countWithin_33 (lv_at hl 0 rfl) ?_
          refine wz_iald hx hb hK hP 0 3 (j := (wn + 2 ^ e8 - 1)) rfl rfl (by omega) (by omega) d_B_countWithin_35 ?_
          refine wz_topi (y := nI j) ej ?_
          refine wz_iald hx hb hK hP 0 1 (j := j) rfl rfl (by omega) (by omega) d_B_countWithin_36 ?_
          refine wz_topi (y := nI e7) ((hS1.2.1 j x hj).1.trans (by rw [he7]; rfl)) ?_
          refine lv_iload_n hx hb d_B_countWithin_37 rfl (lv_at hl 2 rfl) ?_
          refine lv_icmp_gt (tgt := 45) hx hb d_B_countWithin_38 (by decide) (fun hc3 => ?_) (fun hc3 => ?_)
          · skip
            refine lv_iload_n hx hb d_B_countWithin_45 rfl (lv_at hl 4 rfl) ?_
            refine lv_iconst (v := nI 1) hx hb d_B_countWithin_46 (by decide) ?_
            refine lv_ishr hx hb d_B_countWithin_47 ?_
            refine wz_topi (y := nI (2 ^ e8 / 2)) (pk_shrN (by omega) _ 1 (by decide)) ?_
            refine lv_istore_n (lv' := [(3, .int (nI (2 ^ e8 / 2))), (4, .int (nI (wn + 2 ^ e8 - 1))), (0, .ref (ab 0)), (1, .int (nI dd - nI 1)), (2, .int (nI wn))]) hx hb d_B_countWithin_48 rfl hl (by decide) rfl (fun ls hl => ?_)
            refine lv_goto (tgt := 5) hx hb d_B_countWithin_49 (by decide) ?_
            exact ih e8 wn (by omega) (by omega) h1 (by
              by_cases e0 : wn + 2 ^ e8 - 1 < mm
              · exact absurd hc3 (bl_gt_no (hcw.2.1 _ x e7 e0 hgx he7) hdd)
              · omega) _ _ _ hP hD hS (lv_sub hl [2, 3, 4, 0] rfl)
          · skip
            refine lv_iload_n hx hb d_B_countWithin_41 rfl (lv_at hl 3 rfl) ?_
            refine lv_iload_n hx hb d_B_countWithin_42 rfl (lv_at hl 4 rfl) ?_
            refine lv_iadd hx hb d_B_countWithin_43 ?_
            refine wz_topi (y := nI (wn + (2 ^ e8))) (nI_add wn (2 ^ e8)) ?_
            refine lv_istore_n (lv' := [(2, .int (nI (wn + (2 ^ e8)))), (4, .int (nI (wn + 2 ^ e8 - 1))), (0, .ref (ab 0)), (1, .int (nI dd - nI 1)), (3, .int (nI (2 ^ e8)))]) hx hb d_B_countWithin_44 rfl hl (by decide) rfl (fun ls hl => ?_)
            refine lv_iload_n hx hb d_B_countWithin_45 rfl (lv_at hl 4 rfl) ?_
            refine lv_iconst (v := nI 1) hx hb d_B_countWithin_46 (by decide) ?_
            refine lv_ishr hx hb d_B_countWithin_47 ?_
            refine wz_topi (y := nI (2 ^ e8 / 2)) (pk_shrN (by omega) _ 1 (by decide)) ?_
            refine lv_istore_n (lv' := [(3, .int (nI (2 ^ e8 / 2))), (2, .int (nI (wn + (2 ^ e8)))), (4, .int (nI (wn + 2 ^ e8 - 1))), (0, .ref (ab 0)), (1, .int (nI dd - nI 1))]) hx hb d_B_countWithin_48 rfl hl (by decide) rfl (fun ls hl => ?_)
            refine lv_goto (tgt := 5) hx hb d_B_countWithin_49 (by decide) ?_
            exact ih e8 (wn + 2 ^ e8) (by omega) (by omega) (by
              by_cases e0 : mm ≤ wn + 2 ^ e8 - 1
              · exact absurd (bl_gt (hcw.2.2 _ x e7 e0 hgx he7) hdd he7l) hc3
              · omega) (by omega) _ _ _ hP hD hS (lv_sub hl [3, 4, 1, 0] rfl)
  exact loop 17 16 0 (by omega) (by omega) (by omega) (by omega) _ _ _ hP hD hS (lv_sub hl [2, 3, 1, 0] rfl)
