theorem d_X_tally_0 : decode b_X_tally 0 = .ok (.iconst 0, 1) := by decide +kernel
theorem d_X_tally_1 : decode b_X_tally 1 = .ok (.istore_n 2, 1) := by decide +kernel
theorem d_X_tally_2 : decode b_X_tally 2 = .ok (.iconst 0, 1) := by decide +kernel
theorem d_X_tally_3 : decode b_X_tally 3 = .ok (.istore_n 3, 1) := by decide +kernel
theorem d_X_tally_4 : decode b_X_tally 4 = .ok (.iload_n 3, 1) := by decide +kernel
theorem d_X_tally_5 : decode b_X_tally 5 = .ok (.iload_n 1, 1) := by decide +kernel
theorem d_X_tally_6 : decode b_X_tally 6 = .ok (.if_icmp .ge 28, 3) := by decide +kernel
theorem d_X_tally_9 : decode b_X_tally 9 = .ok (.iload_n 0, 1) := by decide +kernel
theorem d_X_tally_10 : decode b_X_tally 10 = .ok (.iconst 3, 1) := by decide +kernel
theorem d_X_tally_11 : decode b_X_tally 11 = .ok (.iload_n 3, 1) := by decide +kernel
theorem d_X_tally_12 : decode b_X_tally 12 = .ok (.imul, 1) := by decide +kernel
theorem d_X_tally_13 : decode b_X_tally 13 = .ok (.iushr, 1) := by decide +kernel
theorem d_X_tally_14 : decode b_X_tally 14 = .ok (.bipush 7, 2) := by decide +kernel
theorem d_X_tally_16 : decode b_X_tally 16 = .ok (.iand, 1) := by decide +kernel
theorem d_X_tally_17 : decode b_X_tally 17 = .ok (.istore 4, 2) := by decide +kernel
theorem d_X_tally_19 : decode b_X_tally 19 = .ok (.iload_n 2, 1) := by decide +kernel
theorem d_X_tally_20 : decode b_X_tally 20 = .ok (.iconst 1, 1) := by decide +kernel
theorem d_X_tally_21 : decode b_X_tally 21 = .ok (.iconst 4, 1) := by decide +kernel
theorem d_X_tally_22 : decode b_X_tally 22 = .ok (.iload 4, 2) := by decide +kernel
theorem d_X_tally_24 : decode b_X_tally 24 = .ok (.imul, 1) := by decide +kernel
theorem d_X_tally_25 : decode b_X_tally 25 = .ok (.ishl, 1) := by decide +kernel
theorem d_X_tally_26 : decode b_X_tally 26 = .ok (.iadd, 1) := by decide +kernel
theorem d_X_tally_27 : decode b_X_tally 27 = .ok (.istore_n 2, 1) := by decide +kernel
theorem d_X_tally_28 : decode b_X_tally 28 = .ok (.iinc 3 1, 3) := by decide +kernel
theorem d_X_tally_31 : decode b_X_tally 31 = .ok (.goto (-27), 3) := by decide +kernel
theorem d_X_tally_34 : decode b_X_tally 34 = .ok (.iload_n 2, 1) := by decide +kernel
theorem d_X_tally_35 : decode b_X_tally 35 = .ok (.ireturn, 1) := by decide +kernel
theorem d_S_forgetRow_0 : decode b_S_forgetRow 0 = .ok (.aload_n 0, 1) := by decide +kernel
theorem d_S_forgetRow_1 : decode b_S_forgetRow 1 = .ok (.iconst (-1), 1) := by decide +kernel
theorem d_S_forgetRow_2 : decode b_S_forgetRow 2 = .ok (.putfield 9, 3) := by decide +kernel
theorem d_S_forgetRow_5 : decode b_S_forgetRow 5 = .ok (.aload_n 0, 1) := by decide +kernel
theorem d_S_forgetRow_6 : decode b_S_forgetRow 6 = .ok (.lconst 0, 1) := by decide +kernel
theorem d_S_forgetRow_7 : decode b_S_forgetRow 7 = .ok (.putfield 74, 3) := by decide +kernel
theorem d_S_forgetRow_10 : decode b_S_forgetRow 10 = .ok (.return_, 1) := by decide +kernel
theorem d_S_ahead_0 : decode b_S_ahead 0 = .ok (.iload_n 1, 1) := by decide +kernel
theorem d_S_ahead_1 : decode b_S_ahead 1 = .ok (.ifCond .ne 10, 3) := by decide +kernel
theorem d_S_ahead_4 : decode b_S_ahead 4 = .ok (.aload_n 0, 1) := by decide +kernel
theorem d_S_ahead_5 : decode b_S_ahead 5 = .ok (.getfield 40, 3) := by decide +kernel
theorem d_S_ahead_8 : decode b_S_ahead 8 = .ok (.goto 7, 3) := by decide +kernel
theorem d_S_ahead_11 : decode b_S_ahead 11 = .ok (.aload_n 0, 1) := by decide +kernel
theorem d_S_ahead_12 : decode b_S_ahead 12 = .ok (.getfield 44, 3) := by decide +kernel
theorem d_S_ahead_15 : decode b_S_ahead 15 = .ok (.areturn, 1) := by decide +kernel
theorem d_S_begin_0 : decode b_S_begin 0 = .ok (.aload_n 0, 1) := by decide +kernel
theorem d_S_begin_1 : decode b_S_begin 1 = .ok (.getfield 54, 3) := by decide +kernel
theorem d_S_begin_4 : decode b_S_begin 4 = .ok (.ifCond .eq 4, 3) := by decide +kernel
theorem d_S_begin_7 : decode b_S_begin 7 = .ok (.return_, 1) := by decide +kernel
theorem d_S_begin_8 : decode b_S_begin 8 = .ok (.aload_n 0, 1) := by decide +kernel
theorem d_S_begin_9 : decode b_S_begin 9 = .ok (.iload_n 1, 1) := by decide +kernel
theorem d_S_begin_10 : decode b_S_begin 10 = .ok (.putfield 58, 3) := by decide +kernel
theorem d_S_begin_13 : decode b_S_begin 13 = .ok (.aload_n 0, 1) := by decide +kernel
theorem d_S_begin_14 : decode b_S_begin 14 = .ok (.getfield 31, 3) := by decide +kernel
theorem d_S_begin_17 : decode b_S_begin 17 = .ok (.invokevirtual 61, 3) := by decide +kernel
theorem d_S_begin_20 : decode b_S_begin 20 = .ok (.aload_n 0, 1) := by decide +kernel
theorem d_S_begin_21 : decode b_S_begin 21 = .ok (.aload_n 0, 1) := by decide +kernel
theorem d_S_begin_22 : decode b_S_begin 22 = .ok (.getfield 31, 3) := by decide +kernel
theorem d_S_begin_25 : decode b_S_begin 25 = .ok (.iload_n 1, 1) := by decide +kernel
theorem d_S_begin_26 : decode b_S_begin 26 = .ok (.invokevirtual 64, 3) := by decide +kernel
theorem d_S_begin_29 : decode b_S_begin 29 = .ok (.putfield 67, 3) := by decide +kernel
theorem d_S_begin_32 : decode b_S_begin 32 = .ok (.aload_n 0, 1) := by decide +kernel
theorem d_S_begin_33 : decode b_S_begin 33 = .ok (.getfield 40, 3) := by decide +kernel
theorem d_S_begin_36 : decode b_S_begin 36 = .ok (.aload_n 0, 1) := by decide +kernel
theorem d_S_begin_37 : decode b_S_begin 37 = .ok (.getfield 67, 3) := by decide +kernel
theorem d_S_begin_40 : decode b_S_begin 40 = .ok (.iconst 0, 1) := by decide +kernel
theorem d_S_begin_41 : decode b_S_begin 41 = .ok (.invokevirtual 70, 3) := by decide +kernel
theorem d_S_begin_44 : decode b_S_begin 44 = .ok (.aload_n 0, 1) := by decide +kernel
theorem d_S_begin_45 : decode b_S_begin 45 = .ok (.getfield 44, 3) := by decide +kernel
theorem d_S_begin_48 : decode b_S_begin 48 = .ok (.aload_n 0, 1) := by decide +kernel
theorem d_S_begin_49 : decode b_S_begin 49 = .ok (.getfield 67, 3) := by decide +kernel
theorem d_S_begin_52 : decode b_S_begin 52 = .ok (.iconst 1, 1) := by decide +kernel
theorem d_S_begin_53 : decode b_S_begin 53 = .ok (.invokevirtual 70, 3) := by decide +kernel
theorem d_S_begin_56 : decode b_S_begin 56 = .ok (.aload_n 0, 1) := by decide +kernel
theorem d_S_begin_57 : decode b_S_begin 57 = .ok (.iconst 1, 1) := by decide +kernel
theorem d_S_begin_58 : decode b_S_begin 58 = .ok (.putfield 54, 3) := by decide +kernel
theorem d_S_begin_61 : decode b_S_begin 61 = .ok (.return_, 1) := by decide +kernel
theorem kw_172 : (Cond.fieldLink "TwoEndSearch$Search" 40 "TwoEndSearch$Search" "aheadOnce" "LTwoEndSearch$Ball;" : Cond) ∈ bigW := bigW_of 172 (by decide +kernel) (by decide +kernel)
theorem kw_173 : (Cond.fieldLink "TwoEndSearch$Search" 44 "TwoEndSearch$Search" "aheadPowers" "LTwoEndSearch$Ball;" : Cond) ∈ bigW := bigW_of 173 (by decide +kernel) (by decide +kernel)
theorem kw_177 : (Cond.fieldLink "TwoEndSearch$Search" 54 "TwoEndSearch$Search" "begun" "Z" : Cond) ∈ bigW := bigW_of 177 (by decide +kernel) (by decide +kernel)
theorem kw_179 : (Cond.fieldLink "TwoEndSearch$Search" 58 "TwoEndSearch$Search" "start" "I" : Cond) ∈ bigW := bigW_of 179 (by decide +kernel) (by decide +kernel)
theorem kw_183 : (Cond.fieldLink "TwoEndSearch$Search" 74 "TwoEndSearch$Search" "ways" "J" : Cond) ∈ bigW := bigW_of 183 (by decide +kernel) (by decide +kernel)
theorem kw_306 : (Cond.methodLink "TwoEndSearch$Search" 61 ⟨"TwoEndSearch$Graph", "dropAll", "()V"⟩ : Cond) ∈ bigW := bigW_of 306 (by decide +kernel) (by decide +kernel)
theorem kw_307 : (Cond.instanceMethod ⟨"TwoEndSearch$Graph", "dropAll", "()V"⟩ : Cond) ∈ bigW := bigW_of 307 (by decide +kernel) (by decide +kernel)
theorem kw_308 : (Cond.selects "TwoEndSearch$Graph" ⟨"TwoEndSearch$Graph", "dropAll", "()V"⟩ ⟨"TwoEndSearch$Graph", "dropAll", "()V"⟩ : Cond) ∈ bigW := bigW_of 308 (by decide +kernel) (by decide +kernel)
theorem kw_309 : (Cond.code ⟨"TwoEndSearch$Graph", "dropAll", "()V"⟩ prog_3_method_2_code 2 none : Cond) ∈ bigW := bigW_of 309 (by decide +kernel) (by decide +kernel)
theorem kw_315 : (Cond.methodLink "TwoEndSearch$Search" 64 ⟨"TwoEndSearch$Graph", "enter", "(I)I"⟩ : Cond) ∈ bigW := bigW_of 315 (by decide +kernel) (by decide +kernel)
theorem kw_319 : (Cond.methodLink "TwoEndSearch$Search" 70 ⟨"TwoEndSearch$Ball", "begin", "(II)V"⟩ : Cond) ∈ bigW := bigW_of 319 (by decide +kernel) (by decide +kernel)
theorem kw_320 : (Cond.instanceMethod ⟨"TwoEndSearch$Ball", "begin", "(II)V"⟩ : Cond) ∈ bigW := bigW_of 320 (by decide +kernel) (by decide +kernel)
theorem kw_321 : (Cond.selects "TwoEndSearch$Ball" ⟨"TwoEndSearch$Ball", "begin", "(II)V"⟩ ⟨"TwoEndSearch$Ball", "begin", "(II)V"⟩ : Cond) ∈ bigW := bigW_of 321 (by decide +kernel) (by decide +kernel)
theorem kw_322 : (Cond.code ⟨"TwoEndSearch$Ball", "begin", "(II)V"⟩ prog_2_method_2_code 4 none : Cond) ∈ bigW := bigW_of 322 (by decide +kernel) (by decide +kernel)
def po_X_tally (q : wz_Q) (n cd : Nat) : Int32 → wz_G → Prop := fun v w => w = [] ∧ v = nI (pz_tal cd n)
set_option maxHeartbeats 4000000 in
set_option maxRecDepth 100000 in
/-- how often each label is there -/
theorem c_X_tally (l : Launch) (D : va_G) (q : wz_Q) (n cd : Nat) (hn : n ≤ 8) (hcd : cd < 8 ^ n) : wz_Mi l y_X_tally ws_X_tally ({ frames := 0, cells := 0, slots := 0, locals := 0 } : Room) D q ([.int (nI cd), .int (nI n)] : List Value) [] (po_X_tally q n cd) 0 0 := by
  intro sz9
  refine wz_enter (cc := b_X_tally) (maxL := 5) (ret := (some .int)) (Qc := fun A => (va_Qi (po_X_tally q n cd) (wz_At D q A) A)) (by decide) (Nat.le_of_ble_eq_true rfl) ?_
  intro p e s m below meth c A ls C hP hD hS hl
  obtain ⟨hx, hb, hr, hml, hlocks, hown, hts, hN, hK, hA, hnm⟩ := C
  have hown : s.vm.findClass "TwoEndSearch" = some m.cls := hown
  have hl : lv_has ls 5 [(0, .int (nI cd)), (1, .int (nI n))] := hl
  have hc24 := pz_lt31 hn hcd
  refine lv_iconst (v := nI 0) hx hb d_X_tally_0 (by decide) ?_
  refine lv_istore_n (lv' := [(2, .int (nI 0)), (0, .int (nI cd)), (1, .int (nI n))]) hx hb d_X_tally_1 rfl hl (by decide) rfl (fun ls hl => ?_)
  refine lv_iconst (v := nI 0) hx hb d_X_tally_2 (by decide) ?_
  refine lv_istore_n (lv' := [(3, .int (nI 0)), (2, .int (nI 0)), (0, .int (nI cd)), (1, .int (nI n))]) hx hb d_X_tally_3 rfl hl (by decide) rfl (fun ls hl => ?_)
  have loop : ∀ (d : Nat) (i : Nat), i ≤ n → n + 1 ≤ i + d → ∀ (H : Heap) (locs : List Loc) (ls : Array Slot), va_P D vwCl ([] : wz_G).flatten H → va_D A ([] : wz_G).flatten → va_S A s.heap H locs → lv_has ls 5 [(0, .int (nI cd)), (1, .int (nI n)), (2, .int (nI (pz_tal cd i))), (3, .int (nI i))] → W p l e ({ frames := 0, cells := 0, slots := 0, locals := 0 } : Room) s m ([.int (nI cd), .int (nI n)] : List Value).toArray below meth c H locs 0 0 (MQ below (va_Qi (po_X_tally q n cd) (wz_At D q A) A) ([.int (nI cd), .int (nI n)] : List Value).toArray s 0 0 A) (F0 m 4 ls []) := by
    intro d
    induction d with
    | zero =>
      intro i hi hd
      omega
    | succ d ih =>
      intro i hi hd H locs ls hP hD hS hl
      refine lv_iload_n hx hb d_X_tally_4 rfl (lv_at hl 3 rfl) ?_
      refine lv_iload_n hx hb d_X_tally_5 rfl (lv_at hl 1 rfl) ?_
      refine wz_ge (tgt := 34) hx hb d_X_tally_6 (by decide) (by omega) (by omega) (fun hc => ?_) (fun hc => ?_)
      · skip
        have hin : i = n := by omega
        subst hin
        refine lv_iload_n hx hb d_X_tally_34 rfl (lv_at hl 2 rfl) ?_
        exact wz_iret hx hb hr hlocks hK hP hD hS d_X_tally_35 ⟨rfl, rfl⟩
      · skip
        have hdl := pz_divlt hn hcd i
        have hd8 := pz_dg_lt cd i
        refine lv_iload_n hx hb d_X_tally_9 rfl (lv_at hl 0 rfl) ?_
        refine lv_iconst (v := nI 3) hx hb d_X_tally_10 (by decide) ?_
        refine lv_iload_n hx hb d_X_tally_11 rfl (lv_at hl 3 rfl) ?_
        refine lv_imul hx hb d_X_tally_12 ?_
        refine wz_topi (y := nI (3 * i)) (pk_mul 3 i) ?_
        refine lv_iushr (v := nI (cd / 8 ^ i)) hx hb d_X_tally_13 (pz_ushr (by omega) (by omega)) ?_
        refine lv_bipush (v := nI 7) hx hb d_X_tally_14 (by decide) ?_
        refine lv_iand hx hb d_X_tally_16 ?_
        refine wz_topi (y := nI (pz_dg cd i)) (pz_and7 (by omega)) ?_
        refine lv_istore (lv' := [(4, .int (nI (pz_dg cd i))), (0, .int (nI cd)), (1, .int (nI n)), (2, .int (nI (pz_tal cd i))), (3, .int (nI i))]) hx hb d_X_tally_17 hl (by decide) rfl (fun ls hl => ?_)
        refine lv_iload_n hx hb d_X_tally_19 rfl (lv_at hl 3 rfl) ?_
        refine lv_iconst (v := nI 1) hx hb d_X_tally_20 (by decide) ?_
        refine lv_iconst (v := nI 4) hx hb d_X_tally_21 (by decide) ?_
        refine lv_iload hx hb d_X_tally_22 (lv_at hl 0 rfl) ?_
        refine lv_imul hx hb d_X_tally_24 ?_
        refine wz_topi (y := nI (4 * (pz_dg cd i))) (pk_mul 4 (pz_dg cd i)) ?_
        refine lv_ishl hx hb d_X_tally_25 ?_
        refine wz_topi (y := nI (16 ^ pz_dg cd i)) (pz_shl16 hd8) ?_
        refine lv_iadd hx hb d_X_tally_26 ?_
        refine wz_topi (y := nI (pz_tal cd (i + 1))) (nI_add _ _) ?_
        refine lv_istore_n (lv' := [(2, .int (nI (pz_tal cd (i + 1)))), (4, .int (nI (pz_dg cd i))), (0, .int (nI cd)), (1, .int (nI n)), (3, .int (nI i))]) hx hb d_X_tally_27 rfl hl (by decide) rfl (fun ls hl => ?_)
        refine lv_iinc (v := nI (i + 1)) (lv' := [(3, .int (nI (i + 1))), (2, .int (nI (pz_tal cd (i + 1)))), (4, .int (nI (pz_dg cd i))), (0, .int (nI cd)), (1, .int (nI n))]) hx hb d_X_tally_28 hl (k := 4) rfl (nI_1 i) (by decide) rfl (fun ls hl => ?_)
        refine lv_goto (tgt := 4) hx hb d_X_tally_31 (by decide) ?_
        exact ih (i + 1) (by omega) (by omega) _ _ _ hP hD hS (lv_sub hl [3, 4, 1, 0] rfl)
  exact loop (n + 1) 0 (by omega) (by omega) _ _ _ hP hD hS (lv_sub hl [2, 3, 1, 0] rfl)
def po_S_forgetRow (q : wz_Q) (as9 : Nat → Nat) (n mr gr r1 r2 r3 cap : Nat) (rw : Nat → Int32) (bg : Int32) (sx ro : Nat) (ln : Int32) (wz : Int64) : wz_G → Prop := fun w => w = [se_W q as9 n mr gr r1 r2 r3 cap rw bg sx ro (-1) 0]
set_option maxHeartbeats 4000000 in
set_option maxRecDepth 100000 in
/-- no row -/
theorem c_S_forgetRow (l : Launch) (D : va_G) (q : wz_Q) (as9 : Nat → Nat) (n mr gr r1 r2 r3 cap : Nat) (rw : Nat → Int32) (bg : Int32) (sx ro : Nat) (ln : Int32) (wz : Int64)  : wz_Mv l y_S_forgetRow ws_S_forgetRow ({ frames := 0, cells := 0, slots := 0, locals := 0 } : Room) D q ([.ref (as9 0)] : List Value) [se_W q as9 n mr gr r1 r2 r3 cap rw bg sx ro ln wz] (po_S_forgetRow q as9 n mr gr r1 r2 r3 cap rw bg sx ro ln wz) 0 0 := by
  intro sz9
  refine wz_enter (cc := b_S_forgetRow) (maxL := 1) (ret := none) (Qc := fun A => (va_Qv (po_S_forgetRow q as9 n mr gr r1 r2 r3 cap rw bg sx ro ln wz) (wz_At D q A) A)) (by decide) (Nat.le_of_ble_eq_true rfl) ?_
  intro p e s m below meth c A ls C hP hD hS hl
  obtain ⟨hx, hb, hr, hml, hlocks, hown, hts, hN, hK, hA, hnm⟩ := C
  have hown : s.vm.findClass "TwoEndSearch$Search" = some m.cls := hown
  have hl : lv_has ls 1 [(0, .ref (as9 0))] := hl
  refine lv_aload_n hx hb d_S_forgetRow_0 rfl (lv_at hl 0 rfl) ?_
  refine lv_iconst (v := (-1)) hx hb d_S_forgetRow_1 (by decide) ?_
  refine wz_put (gs' := [se_W q as9 n mr gr r1 r2 r3 cap rw bg sx ro (-1) wz]) (v := .int (-1)) (T := T_S) (N := 12) hx hb hts i_S t_S t_S_ok n_S hown hK hP hD hS 0 0 rfl rfl rfl 10 (by decide) (hts _ kw_181) rfl rfl (ty := t_S 10) (by decide +kernel) rfl rfl (Nat.le_of_ble_eq_true rfl) d_S_forgetRow_2 rfl (fun H locs hP hD hS => ?_)
  refine lv_aload_n hx hb d_S_forgetRow_5 rfl (lv_at hl 0 rfl) ?_
  refine lv_lconst (v := 0) hx hb d_S_forgetRow_6 rfl ?_
  refine wz_put (gs' := [se_W q as9 n mr gr r1 r2 r3 cap rw bg sx ro (-1) 0]) (v := .long 0) (T := T_S) (N := 12) hx hb hts i_S t_S t_S_ok n_S hown hK hP hD hS 0 0 rfl rfl rfl 11 (by decide) (hts _ kw_183) rfl rfl (ty := t_S 11) (by decide +kernel) rfl rfl (Nat.le_of_ble_eq_true rfl) d_S_forgetRow_7 rfl (fun H locs hP hD hS => ?_)
  exact wz_vret hx hb hr hlocks hK hP hD hS d_S_forgetRow_10 rfl
def po_S_ahead (q : wz_Q) (as9 : Nat → Nat) (n mr gr r1 r2 r3 cap : Nat) (rw : Nat → Int32) (bg : Int32) (sx ro : Nat) (ln : Int32) (wz : Int64) (x : Int32) : Nat → wz_G → Prop := fun v w => w = [se_W q as9 n mr gr r1 r2 r3 cap rw bg sx ro ln wz] ∧ v = if x = 0 then r1 else r2
set_option maxHeartbeats 4000000 in
set_option maxRecDepth 100000 in
/-- the ball of a measure -/
theorem c_S_ahead (l : Launch) (D : va_G) (q : wz_Q) (as9 : Nat → Nat) (n mr gr r1 r2 r3 cap : Nat) (rw : Nat → Int32) (bg : Int32) (sx ro : Nat) (ln : Int32) (wz : Int64) (x : Int32)  : wz_Mr l y_S_ahead ws_S_ahead ({ frames := 0, cells := 0, slots := 0, locals := 0 } : Room) D q ([.ref (as9 0), .int x] : List Value) [se_W q as9 n mr gr r1 r2 r3 cap rw bg sx ro ln wz] (po_S_ahead q as9 n mr gr r1 r2 r3 cap rw bg sx ro ln wz x) 0 0 := by
  intro sz9
  refine wz_enter (cc := b_S_ahead) (maxL := 2) (ret := (some (.object "TwoEndSearch$Ball"))) (Qc := fun A => (va_Qr (fun u : Nat × wz_G => (po_S_ahead q as9 n mr gr r1 r2 r3 cap rw bg sx ro ln wz x) u.1 u.2) (fun u a t => a = u.1 ∧ wz_At D q A u.2 t) A)) (by decide) (Nat.le_of_ble_eq_true rfl) ?_
  intro p e s m below meth c A ls C hP hD hS hl
  obtain ⟨hx, hb, hr, hml, hlocks, hown, hts, hN, hK, hA, hnm⟩ := C
  have hown : s.vm.findClass "TwoEndSearch$Search" = some m.cls := hown
  have hl : lv_has ls 2 [(0, .ref (as9 0)), (1, .int x)] := hl
  refine lv_iload_n hx hb d_S_ahead_0 rfl (lv_at hl 1 rfl) ?_
  refine lv_if_ne (tgt := 11) hx hb d_S_ahead_1 (by decide) (fun hc => ?_) (fun hc => ?_)
  · skip
    refine lv_aload_n hx hb d_S_ahead_11 rfl (lv_at hl 0 rfl) ?_
    refine wz_get (v := .ref r2) (T := T_S) (N := 12) hx hb hts i_S hown hK hP 0 0 rfl rfl rfl 4 (by decide) (hts _ kw_173) rfl rfl d_S_ahead_12 ?_
    exact wz_aret hx hb hr ⟨_, rfl⟩ hlocks hK hP hD hS d_S_ahead_15 ⟨rfl, (if_neg hc).symm⟩
  · skip
    refine lv_aload_n hx hb d_S_ahead_4 rfl (lv_at hl 0 rfl) ?_
    refine wz_get (v := .ref r1) (T := T_S) (N := 12) hx hb hts i_S hown hK hP 0 0 rfl rfl rfl 3 (by decide) (hts _ kw_172) rfl rfl d_S_ahead_5 ?_
    refine lv_goto (tgt := 15) hx hb d_S_ahead_8 (by decide) ?_
    exact wz_aret hx hb hr ⟨_, rfl⟩ hlocks hK hP hD hS d_S_ahead_15 ⟨rfl, (if_pos hc).symm⟩
def po_S_begin1 (q : wz_Q) (as9 : Nat → Nat) (n mr gr r1 r2 r3 cap : Nat) (rw : Nat → Int32) (bg : Int32) (sx ro : Nat) (ln : Int32) (wz : Int64) (x : Int32) : wz_G → Prop := fun w => w = [se_W q as9 n mr gr r1 r2 r3 cap rw bg sx ro ln wz]
set_option maxHeartbeats 4000000 in
set_option maxRecDepth 100000 in
/-- begun already -/
theorem c_S_begin1 (l : Launch) (D : va_G) (q : wz_Q) (as9 : Nat → Nat) (n mr gr r1 r2 r3 cap : Nat) (rw : Nat → Int32) (bg : Int32) (sx ro : Nat) (ln : Int32) (wz : Int64) (x : Int32) (hbg : bg = nI 1) : wz_Mv l y_S_begin ws_S_begin ({ frames := 2, cells := 0, slots := 0, locals := 47 } : Room) D q ([.ref (as9 0), .int x] : List Value) [se_W q as9 n mr gr r1 r2 r3 cap rw bg sx ro ln wz] (po_S_begin1 q as9 n mr gr r1 r2 r3 cap rw bg sx ro ln wz x) 0 0 := by
  intro sz9
  refine wz_enter (cc := b_S_begin) (maxL := 2) (ret := none) (Qc := fun A => (va_Qv (po_S_begin1 q as9 n mr gr r1 r2 r3 cap rw bg sx ro ln wz x) (wz_At D q A) A)) (by decide) (Nat.le_of_ble_eq_true rfl) ?_
  intro p e s m below meth c A ls C hP hD hS hl
  obtain ⟨hx, hb, hr, hml, hlocks, hown, hts, hN, hK, hA, hnm⟩ := C
  have hown : s.vm.findClass "TwoEndSearch$Search" = some m.cls := hown
  have hl : lv_has ls 2 [(0, .ref (as9 0)), (1, .int x)] := hl
  subst hbg
  refine lv_aload_n hx hb d_S_begin_0 rfl (lv_at hl 0 rfl) ?_
  refine wz_get (v := .int (nI 1)) (T := T_S) (N := 12) hx hb hts i_S hown hK hP 0 0 rfl rfl rfl 7 (by decide) (hts _ kw_177) rfl rfl d_S_begin_1 ?_
  refine lv_if_eq (tgt := 8) hx hb d_S_begin_4 (by decide) (fun hc => ?_) (fun hc => ?_)
  · skip
    exact absurd hc (by decide)
  · skip
    exact wz_vret hx hb hr hlocks hK hP hD hS d_S_begin_7 rfl
def po_S_begin0 (q : wz_Q) (as9 ab ac ag am : Nat → Nat) (n b k r3 : Nat) (rl rt : Nat → Nat) (fo : Nat → Int32) (sg tu : Nat → Nat → Nat) (rw : Nat → Int32) (bg : Int32) (sx ro : Nat) (ln : Int32) (wz : Int64) (G : List Nat) (st sl : Nat → Int32) (sf : Nat → Nat) (L : Nat → Nat → Int32) (f1 : Nat → Int32) (w1 : Nat → Int64) (e1 : Nat → Int32) (z1 y1 d1 : Nat) (m1 c1 : Int32) (f2 : Nat → Int32) (w2 : Nat → Int64) (e2 : Nat → Int32) (z2 y2 d2 : Nat) (m2 c2 : Int32) (sa : Nat) : wz_G → Prop := fun w => ∃ (G' : List Nat) (st' sl' : Nat → Int32) (L' : Nat → Nat → Int32) (c9 ro' : Nat) (f1' : Nat → Int32) (w1' : Nat → Int64) (e1' f2' : Nat → Int32) (w2' : Nat → Int64) (e2' : Nat → Int32), w = [se_W q as9 n (am 0) (ag 0) (ab 0) (ac 0) r3 (pz_fact n) rw (nI 1) sa ro' ln wz, bl_W q ab (am 0) (ag 0) 0 (pz_fact n) f1' w1' e1' 1 0 0 (nI 0) (nI 0), bl_W q ac (am 0) (ag 0) 0 (pz_fact n) f2' w2' e2' 1 0 0 (nI 1) (nI 0), gq_W q ag (am 0) (pz_fact n) (2 ^ b) (32 - b) rl st' sl' c9, wz_rows 12 rl (fun i9 => .inl (q.1, pz_fact n, .inl (L' i9))), mv_W q am n k rt fo] ∧ c9 = G'.length ∧ gq_ok n sa b k sg tu G' st' sl' L' ∧ G'[ro']? = some sa ∧ bl_ok (pz_fact n) G' (pz_S0 sa) f1' w1' e1' ∧ bl_ok (pz_fact n) G' (pz_S0 sa) f2' w2' e2'
set_option maxHeartbeats 4000000 in
set_option maxRecDepth 100000 in
/-- the graph and the balls are begun -/
theorem c_S_begin0 (l : Launch) (D : va_G) (q : wz_Q) (as9 ab ac ag am : Nat → Nat) (n b k r3 : Nat) (rl rt : Nat → Nat) (fo : Nat → Int32) (sg tu : Nat → Nat → Nat) (rw : Nat → Int32) (bg : Int32) (sx ro : Nat) (ln : Int32) (wz : Int64) (G : List Nat) (st sl : Nat → Int32) (sf : Nat → Nat) (L : Nat → Nat → Int32) (f1 : Nat → Int32) (w1 : Nat → Int64) (e1 : Nat → Int32) (z1 y1 d1 : Nat) (m1 c1 : Int32) (f2 : Nat → Int32) (w2 : Nat → Int64) (e2 : Nat → Int32) (z2 y2 d2 : Nat) (m2 c2 : Int32) (sa : Nat) (hn : n ≤ 8) (hb0 : 0 < b) (hb30 : b ≤ 30) (hM : pz_fact n < 2 ^ b) (hk : k ≤ 6) (hst : ∀ i x, G[i]? = some x → st i = nI x) (hsl : ∀ j, j < 2 ^ b → sl j = nI (sf j)) (ht : pz_ht (2 ^ b) (gq_hh b) G sf) (hG : G.length ≤ pz_fact n) (hx24 : ∀ x, x ∈ G → x < 2 ^ 24) (hnd : G.Nodup) (hw1 : bl_raw (pz_fact n) f1 e1 z1) (hw2 : bl_raw (pz_fact n) f2 e2 z2) (hbg : bg = nI 0) (hsa : sa < 8 ^ n) : wz_Mv l y_S_begin ws_S_begin ({ frames := 2, cells := 0, slots := 0, locals := 47 } : Room) D q ([.ref (as9 0), .int (nI sa)] : List Value) [se_W q as9 n (am 0) (ag 0) (ab 0) (ac 0) r3 (pz_fact n) rw bg sx ro ln wz, bl_W q ab (am 0) (ag 0) 0 (pz_fact n) f1 w1 e1 z1 y1 d1 m1 c1, bl_W q ac (am 0) (ag 0) 0 (pz_fact n) f2 w2 e2 z2 y2 d2 m2 c2, gq_W q ag (am 0) (pz_fact n) (2 ^ b) (32 - b) rl st sl G.length, wz_rows 12 rl (fun i9 => .inl (q.1, pz_fact n, .inl (L i9))), mv_W q am n k rt fo] (po_S_begin0 q as9 ab ac ag am n b k r3 rl rt fo sg tu rw bg sx ro ln wz G st sl sf L f1 w1 e1 z1 y1 d1 m1 c1 f2 w2 e2 z2 y2 d2 m2 c2 sa) 0 0 := by
  intro sz9
  refine wz_enter (cc := b_S_begin) (maxL := 2) (ret := none) (Qc := fun A => (va_Qv (po_S_begin0 q as9 ab ac ag am n b k r3 rl rt fo sg tu rw bg sx ro ln wz G st sl sf L f1 w1 e1 z1 y1 d1 m1 c1 f2 w2 e2 z2 y2 d2 m2 c2 sa) (wz_At D q A) A)) (by decide) (Nat.le_of_ble_eq_true rfl) ?_
  intro p e s m below meth c A ls C hP hD hS hl
  obtain ⟨hx, hb, hr, hml, hlocks, hown, hts, hN, hK, hA, hnm⟩ := C
  have hown : s.vm.findClass "TwoEndSearch$Search" = some m.cls := hown
  have hl : lv_has ls 2 [(0, .ref (as9 0)), (1, .int (nI sa))] := hl
  have hfl := pz_fact_le hn
  have hp0 : 0 < 2 ^ b := Nat.pow_pos (by decide)
  subst hbg
  refine lv_aload_n hx hb d_S_begin_0 rfl (lv_at hl 0 rfl) ?_
  refine wz_get (v := .int (nI 0)) (T := T_S) (N := 12) hx hb hts i_S hown hK hP 0 0 rfl rfl rfl 7 (by decide) (hts _ kw_177) rfl rfl d_S_begin_1 ?_
  refine lv_if_eq (tgt := 8) hx hb d_S_begin_4 (by decide) (fun hc => ?_) (fun hc => ?_)
  · skip
    refine lv_aload_n hx hb d_S_begin_8 rfl (lv_at hl 0 rfl) ?_
    refine lv_iload_n hx hb d_S_begin_9 rfl (lv_at hl 1 rfl) ?_
    refine wz_put (gs' := [se_W q as9 n (am 0) (ag 0) (ab 0) (ac 0) r3 (pz_fact n) rw (nI 0) sa ro ln wz, bl_W q ab (am 0) (ag 0) 0 (pz_fact n) f1 w1 e1 z1 y1 d1 m1 c1, bl_W q ac (am 0) (ag 0) 0 (pz_fact n) f2 w2 e2 z2 y2 d2 m2 c2, gq_W q ag (am 0) (pz_fact n) (2 ^ b) (32 - b) rl st sl G.length, wz_rows 12 rl (fun i9 => .inl (q.1, pz_fact n, .inl (L i9))), mv_W q am n k rt fo]) (v := .int (nI sa)) (T := T_S) (N := 12) hx hb hts i_S t_S t_S_ok n_S hown hK hP hD hS 0 0 rfl rfl rfl 8 (by decide) (hts _ kw_179) rfl rfl (ty := t_S 8) (by decide +kernel) rfl rfl (Nat.le_of_ble_eq_true rfl) d_S_begin_10 rfl (fun H locs hP hD hS => ?_)
    refine lv_aload_n hx hb d_S_begin_13 rfl (lv_at hl 0 rfl) ?_
    refine wz_get (v := .ref (ag 0)) (T := T_S) (N := 12) hx hb hts i_S hown hK hP 0 0 rfl rfl rfl 2 (by decide) (hts _ kw_171) rfl rfl d_S_begin_14 ?_
    have hQ := wz_split (n := 6) (gc := [gq_W q ag (am 0) (pz_fact n) (2 ^ b) (32 - b) rl st sl G.length]) (gr := [se_W q as9 n (am 0) (ag 0) (ab 0) (ac 0) r3 (pz_fact n) rw (nI 0) sa ro ln wz, bl_W q ab (am 0) (ag 0) 0 (pz_fact n) f1 w1 e1 z1 y1 d1 m1 c1, bl_W q ac (am 0) (ag 0) 0 (pz_fact n) f2 w2 e2 z2 y2 d2 m2 c2, wz_rows 12 rl (fun i9 => .inl (q.1, pz_fact n, .inl (L i9))), mv_W q am n k rt fo]) [3] [0, 1, 2, 4, 5] rfl (by decide) rfl rfl hP hD
    refine wz_callv (va_runV (As := []) (rest := []) ⟨hx, hb, hml, hown, hts⟩ (c_G_dropAll l D q ag (am 0) n b rl st sl G sf hn hb0 hb30 hM hst hsl ht hG hx24 hnd _) (cwV 0 hts (wz_goodV kw_306 kw_307 kw_308 kw_34 kw_309) rfl rfl rfl (by decide +kernel) ⟨Nat.le_of_ble_eq_true rfl, Nat.le_of_ble_eq_true rfl⟩) (wz_preV (gi := 0) (k := 0) hN hK hQ wz_L_ok rfl rfl rfl) rfl rfl hl.1 rfl (lv_room (Nat.le_of_ble_eq_true rfl)) d_S_begin_17 ⟨Nat.le_of_ble_eq_true rfl, Nat.le_of_ble_eq_true rfl⟩) hQ hS hA (fun gx H locs hp hP hD hS => ?_)
    obtain ⟨sl2, s2, rfl, hsl2, ht2⟩ := hp
    obtain ⟨hP, hD⟩ := wz_ord (n := 6) (gs' := [se_W q as9 n (am 0) (ag 0) (ab 0) (ac 0) r3 (pz_fact n) rw (nI 0) sa ro ln wz, bl_W q ab (am 0) (ag 0) 0 (pz_fact n) f1 w1 e1 z1 y1 d1 m1 c1, bl_W q ac (am 0) (ag 0) 0 (pz_fact n) f2 w2 e2 z2 y2 d2 m2 c2, gq_W q ag (am 0) (pz_fact n) (2 ^ b) (32 - b) rl st sl2 0, wz_rows 12 rl (fun i9 => .inl (q.1, pz_fact n, .inl (L i9))), mv_W q am n k rt fo]) [1, 2, 3, 0, 4, 5] rfl (by decide) rfl hP hD
    have hok0 : gq_ok n sa b k sg tu [] st sl2 L := ⟨List.nodup_nil, fun x h9 => absurd h9 List.not_mem_nil, fun i x h9 => by simp at h9, ⟨s2, hsl2, ht2⟩, fun u i x _ h9 => by simp at h9⟩
    refine lv_aload_n hx hb d_S_begin_20 rfl (lv_at hl 0 rfl) ?_
    refine lv_aload_n hx hb d_S_begin_21 rfl (lv_at hl 0 rfl) ?_
    refine wz_get (v := .ref (ag 0)) (T := T_S) (N := 12) hx hb hts i_S hown hK hP 0 0 rfl rfl rfl 2 (by decide) (hts _ kw_171) rfl rfl d_S_begin_22 ?_
    refine lv_iload_n hx hb d_S_begin_25 rfl (lv_at hl 1 rfl) ?_
    have hP : va_P D vwCl ([se_W q as9 n (am 0) (ag 0) (ab 0) (ac 0) r3 (pz_fact n) rw (nI 0) sa ro ln wz, bl_W q ab (am 0) (ag 0) 0 (pz_fact n) f1 w1 e1 z1 y1 d1 m1 c1, bl_W q ac (am 0) (ag 0) 0 (pz_fact n) f2 w2 e2 z2 y2 d2 m2 c2, gq_W q ag (am 0) (pz_fact n) (2 ^ b) (32 - b) rl st sl2 (([] : List Nat).length), wz_rows 12 rl (fun i9 => .inl (q.1, pz_fact n, .inl (L i9))), mv_W q am n k rt fo] : wz_G).flatten H := hP
    have hD : va_D A ([se_W q as9 n (am 0) (ag 0) (ab 0) (ac 0) r3 (pz_fact n) rw (nI 0) sa ro ln wz, bl_W q ab (am 0) (ag 0) 0 (pz_fact n) f1 w1 e1 z1 y1 d1 m1 c1, bl_W q ac (am 0) (ag 0) 0 (pz_fact n) f2 w2 e2 z2 y2 d2 m2 c2, gq_W q ag (am 0) (pz_fact n) (2 ^ b) (32 - b) rl st sl2 (([] : List Nat).length), wz_rows 12 rl (fun i9 => .inl (q.1, pz_fact n, .inl (L i9))), mv_W q am n k rt fo] : wz_G).flatten := hD
    have hQ := wz_split (n := 6) (gc := [gq_W q ag (am 0) (pz_fact n) (2 ^ b) (32 - b) rl st sl2 (([] : List Nat).length), wz_rows 12 rl (fun i9 => .inl (q.1, pz_fact n, .inl (L i9))), mv_W q am n k rt fo]) (gr := [se_W q as9 n (am 0) (ag 0) (ab 0) (ac 0) r3 (pz_fact n) rw (nI 0) sa ro ln wz, bl_W q ab (am 0) (ag 0) 0 (pz_fact n) f1 w1 e1 z1 y1 d1 m1 c1, bl_W q ac (am 0) (ag 0) 0 (pz_fact n) f2 w2 e2 z2 y2 d2 m2 c2]) [3, 4, 5] [0, 1, 2] rfl (by decide) rfl rfl hP hD
    refine wz_calli (va_runV (As := [.int (nI sa)]) (rest := [.ref (as9 0)]) ⟨hx, hb, hml, hown, hts⟩ (c_G_enter l D q ag am n b k rl rt fo st sl2 L sg tu [] sa sa hn hb0 hb30 hM hk hok0 (pz_arr_self hsa) _) (cwV 1 hts (wz_goodV kw_315 kw_316 kw_317 kw_34 kw_318) rfl rfl rfl (by decide +kernel) ⟨Nat.le_of_ble_eq_true rfl, Nat.le_of_ble_eq_true rfl⟩) (wz_preV (gi := 0) (k := 0) hN hK hQ wz_L_ok rfl rfl rfl) rfl rfl hl.1 rfl (lv_room (Nat.le_of_ble_eq_true rfl)) d_S_begin_26 ⟨Nat.le_of_ble_eq_true rfl, Nat.le_of_ble_eq_true rfl⟩) hQ hS hA (fun v_26 gx H locs hp hP hD hS => ?_)
    obtain ⟨G', st', sl', L', c9, j, rfl, rfl, rfl, hj, -, hok'⟩ := hp
    have hGl' := gq_len hok'
    have hjl := (List.getElem?_eq_some_iff.mp hj).1
    obtain ⟨hP, hD⟩ := wz_ord (n := 6) (gs' := [se_W q as9 n (am 0) (ag 0) (ab 0) (ac 0) r3 (pz_fact n) rw (nI 0) sa ro ln wz, bl_W q ab (am 0) (ag 0) 0 (pz_fact n) f1 w1 e1 z1 y1 d1 m1 c1, bl_W q ac (am 0) (ag 0) 0 (pz_fact n) f2 w2 e2 z2 y2 d2 m2 c2, gq_W q ag (am 0) (pz_fact n) (2 ^ b) (32 - b) rl st' sl' G'.length, wz_rows 12 rl (fun i9 => .inl (q.1, pz_fact n, .inl (L' i9))), mv_W q am n k rt fo]) [3, 4, 5, 0, 1, 2] rfl (by decide) rfl hP hD
    refine wz_put (gs' := [se_W q as9 n (am 0) (ag 0) (ab 0) (ac 0) r3 (pz_fact n) rw (nI 0) sa j ln wz, bl_W q ab (am 0) (ag 0) 0 (pz_fact n) f1 w1 e1 z1 y1 d1 m1 c1, bl_W q ac (am 0) (ag 0) 0 (pz_fact n) f2 w2 e2 z2 y2 d2 m2 c2, gq_W q ag (am 0) (pz_fact n) (2 ^ b) (32 - b) rl st' sl' G'.length, wz_rows 12 rl (fun i9 => .inl (q.1, pz_fact n, .inl (L' i9))), mv_W q am n k rt fo]) (v := .int (nI j)) (T := T_S) (N := 12) hx hb hts i_S t_S t_S_ok n_S hown hK hP hD hS 0 0 rfl rfl rfl 9 (by decide) (hts _ kw_180) rfl rfl (ty := t_S 9) (by decide +kernel) rfl rfl (Nat.le_of_ble_eq_true rfl) d_S_begin_29 rfl (fun H locs hP hD hS => ?_)
    refine lv_aload_n hx hb d_S_begin_32 rfl (lv_at hl 0 rfl) ?_
    refine wz_get (v := .ref (ab 0)) (T := T_S) (N := 12) hx hb hts i_S hown hK hP 0 0 rfl rfl rfl 3 (by decide) (hts _ kw_172) rfl rfl d_S_begin_33 ?_
    refine lv_aload_n hx hb d_S_begin_36 rfl (lv_at hl 0 rfl) ?_
    refine wz_get (v := .int (nI j)) (T := T_S) (N := 12) hx hb hts i_S hown hK hP 0 0 rfl rfl rfl 9 (by decide) (hts _ kw_180) rfl rfl d_S_begin_37 ?_
    refine lv_iconst (v := nI 0) hx hb d_S_begin_40 (by decide) ?_
    have hQ := wz_split (n := 6) (gc := [bl_W q ab (am 0) (ag 0) 0 (pz_fact n) f1 w1 e1 z1 y1 d1 m1 c1]) (gr := [se_W q as9 n (am 0) (ag 0) (ab 0) (ac 0) r3 (pz_fact n) rw (nI 0) sa j ln wz, bl_W q ac (am 0) (ag 0) 0 (pz_fact n) f2 w2 e2 z2 y2 d2 m2 c2, gq_W q ag (am 0) (pz_fact n) (2 ^ b) (32 - b) rl st' sl' G'.length, wz_rows 12 rl (fun i9 => .inl (q.1, pz_fact n, .inl (L' i9))), mv_W q am n k rt fo]) [1] [0, 2, 3, 4, 5] rfl (by decide) rfl rfl hP hD
    refine wz_callv (va_runV (As := [.int (nI j), .int (nI 0)]) (rest := []) ⟨hx, hb, hml, hown, hts⟩ (c_B_begin l D q ab (am 0) (ag 0) 0 (pz_fact n) f1 w1 e1 z1 y1 d1 m1 c1 j (nI 0) (by omega) (by omega) hw1 _) (cwV 2 hts (wz_goodV kw_319 kw_320 kw_321 kw_35 kw_322) rfl rfl rfl (by decide +kernel) ⟨Nat.le_of_ble_eq_true rfl, Nat.le_of_ble_eq_true rfl⟩) (wz_preV (gi := 0) (k := 0) hN hK hQ wz_L_ok rfl rfl rfl) rfl rfl hl.1 rfl (lv_room (Nat.le_of_ble_eq_true rfl)) d_S_begin_41 ⟨Nat.le_of_ble_eq_true rfl, Nat.le_of_ble_eq_true rfl⟩) hQ hS hA (fun gx H locs hp hP hD hS => ?_)
    obtain ⟨g1, hg1, rfl⟩ := hp
    obtain ⟨hP, hD⟩ := wz_ord (n := 6) (gs' := [se_W q as9 n (am 0) (ag 0) (ab 0) (ac 0) r3 (pz_fact n) rw (nI 0) sa j ln wz, bl_W q ab (am 0) (ag 0) 0 (pz_fact n) (upd g1 j (nI 0)) (vp_updL (vp_updL w1 j 0) j 1) (upd e1 0 (nI j)) 1 0 0 (nI 0) (nI 0), bl_W q ac (am 0) (ag 0) 0 (pz_fact n) f2 w2 e2 z2 y2 d2 m2 c2, gq_W q ag (am 0) (pz_fact n) (2 ^ b) (32 - b) rl st' sl' G'.length, wz_rows 12 rl (fun i9 => .inl (q.1, pz_fact n, .inl (L' i9))), mv_W q am n k rt fo]) [1, 0, 2, 3, 4, 5] rfl (by decide) rfl hP hD
    refine lv_aload_n hx hb d_S_begin_44 rfl (lv_at hl 0 rfl) ?_
    refine wz_get (v := .ref (ac 0)) (T := T_S) (N := 12) hx hb hts i_S hown hK hP 0 0 rfl rfl rfl 4 (by decide) (hts _ kw_173) rfl rfl d_S_begin_45 ?_
    refine lv_aload_n hx hb d_S_begin_48 rfl (lv_at hl 0 rfl) ?_
    refine wz_get (v := .int (nI j)) (T := T_S) (N := 12) hx hb hts i_S hown hK hP 0 0 rfl rfl rfl 9 (by decide) (hts _ kw_180) rfl rfl d_S_begin_49 ?_
    refine lv_iconst (v := nI 1) hx hb d_S_begin_52 (by decide) ?_
    have hQ := wz_split (n := 6) (gc := [bl_W q ac (am 0) (ag 0) 0 (pz_fact n) f2 w2 e2 z2 y2 d2 m2 c2]) (gr := [se_W q as9 n (am 0) (ag 0) (ab 0) (ac 0) r3 (pz_fact n) rw (nI 0) sa j ln wz, bl_W q ab (am 0) (ag 0) 0 (pz_fact n) (upd g1 j (nI 0)) (vp_updL (vp_updL w1 j 0) j 1) (upd e1 0 (nI j)) 1 0 0 (nI 0) (nI 0), gq_W q ag (am 0) (pz_fact n) (2 ^ b) (32 - b) rl st' sl' G'.length, wz_rows 12 rl (fun i9 => .inl (q.1, pz_fact n, .inl (L' i9))), mv_W q am n k rt fo]) [2] [0, 1, 3, 4, 5] rfl (by decide) rfl rfl hP hD
    refine wz_callv (va_runV (As := [.int (nI j), .int (nI 1)]) (rest := []) ⟨hx, hb, hml, hown, hts⟩ (c_B_begin l D q ac (am 0) (ag 0) 0 (pz_fact n) f2 w2 e2 z2 y2 d2 m2 c2 j (nI 1) (by omega) (by omega) hw2 _) (cwV 2 hts (wz_goodV kw_319 kw_320 kw_321 kw_35 kw_322) rfl rfl rfl (by decide +kernel) ⟨Nat.le_of_ble_eq_true rfl, Nat.le_of_ble_eq_true rfl⟩) (wz_preV (gi := 0) (k := 0) hN hK hQ wz_L_ok rfl rfl rfl) rfl rfl hl.1 rfl (lv_room (Nat.le_of_ble_eq_true rfl)) d_S_begin_53 ⟨Nat.le_of_ble_eq_true rfl, Nat.le_of_ble_eq_true rfl⟩) hQ hS hA (fun gx H locs hp hP hD hS => ?_)
    obtain ⟨g2, hg2, rfl⟩ := hp
    obtain ⟨hP, hD⟩ := wz_ord (n := 6) (gs' := [se_W q as9 n (am 0) (ag 0) (ab 0) (ac 0) r3 (pz_fact n) rw (nI 0) sa j ln wz, bl_W q ab (am 0) (ag 0) 0 (pz_fact n) (upd g1 j (nI 0)) (vp_updL (vp_updL w1 j 0) j 1) (upd e1 0 (nI j)) 1 0 0 (nI 0) (nI 0), bl_W q ac (am 0) (ag 0) 0 (pz_fact n) (upd g2 j (nI 0)) (vp_updL (vp_updL w2 j 0) j 1) (upd e2 0 (nI j)) 1 0 0 (nI 1) (nI 0), gq_W q ag (am 0) (pz_fact n) (2 ^ b) (32 - b) rl st' sl' G'.length, wz_rows 12 rl (fun i9 => .inl (q.1, pz_fact n, .inl (L' i9))), mv_W q am n k rt fo]) [1, 2, 0, 3, 4, 5] rfl (by decide) rfl hP hD
    refine lv_aload_n hx hb d_S_begin_56 rfl (lv_at hl 0 rfl) ?_
    refine lv_iconst (v := nI 1) hx hb d_S_begin_57 (by decide) ?_
    refine wz_put (gs' := [se_W q as9 n (am 0) (ag 0) (ab 0) (ac 0) r3 (pz_fact n) rw (nI 1) sa j ln wz, bl_W q ab (am 0) (ag 0) 0 (pz_fact n) (upd g1 j (nI 0)) (vp_updL (vp_updL w1 j 0) j 1) (upd e1 0 (nI j)) 1 0 0 (nI 0) (nI 0), bl_W q ac (am 0) (ag 0) 0 (pz_fact n) (upd g2 j (nI 0)) (vp_updL (vp_updL w2 j 0) j 1) (upd e2 0 (nI j)) 1 0 0 (nI 1) (nI 0), gq_W q ag (am 0) (pz_fact n) (2 ^ b) (32 - b) rl st' sl' G'.length, wz_rows 12 rl (fun i9 => .inl (q.1, pz_fact n, .inl (L' i9))), mv_W q am n k rt fo]) (v := .int (nI 1)) (T := T_S) (N := 12) hx hb hts i_S t_S t_S_ok n_S hown hK hP hD hS 0 0 rfl rfl rfl 7 (by decide) (hts _ kw_177) rfl rfl (ty := t_S 7) (by decide +kernel) rfl rfl (Nat.le_of_ble_eq_true rfl) d_S_begin_58 rfl (fun H locs hP hD hS => ?_)
    exact wz_vret hx hb hr hlocks hK hP hD hS d_S_begin_61 ⟨G', st', sl', L', G'.length, j, _, _, _, _, _, _, rfl, rfl, hok', hj, bl_begin hok'.1 hGl' hj hg1, bl_begin hok'.1 hGl' hj hg2⟩
  · skip
    exact absurd rfl hc
