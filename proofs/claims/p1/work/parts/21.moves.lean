theorem mv_aim_self {M : Nat → Nat → Int32} {k i : Nat} (h1 : ∀ p, p < i → M k p = nI p ∧ M (k + 6) p = nI p) (p : Nat) (hp : p < i + 1) : mv_aim M k i i k p = nI p ∧ mv_aim M k i i (k + 6) p = nI p := by
  rw [mv_aim_1, mv_aim_2]
  by_cases e : p = i
  · subst e; rw [pk_us, pk_us]; exact ⟨rfl, rfl⟩
  · rw [pk_un e, pk_un e]; exact h1 p (by omega)
theorem d_M_add_0 : decode b_M_add 0 = .ok (.aload_n 0, 1) := by decide +kernel
theorem d_M_add_1 : decode b_M_add 1 = .ok (.getfield 24, 3) := by decide +kernel
theorem d_M_add_4 : decode b_M_add 4 = .ok (.bipush 6, 2) := by decide +kernel
theorem d_M_add_6 : decode b_M_add 6 = .ok (.if_icmp .lt 5, 3) := by decide +kernel
theorem d_M_add_9 : decode b_M_add 9 = .ok (.iconst (-1), 1) := by decide +kernel
theorem d_M_add_10 : decode b_M_add 10 = .ok (.ireturn, 1) := by decide +kernel
theorem d_M_add_11 : decode b_M_add 11 = .ok (.aload_n 0, 1) := by decide +kernel
theorem d_M_add_12 : decode b_M_add 12 = .ok (.getfield 24, 3) := by decide +kernel
theorem d_M_add_15 : decode b_M_add 15 = .ok (.istore_n 1, 1) := by decide +kernel
theorem d_M_add_16 : decode b_M_add 16 = .ok (.iconst 0, 1) := by decide +kernel
theorem d_M_add_17 : decode b_M_add 17 = .ok (.istore_n 2, 1) := by decide +kernel
theorem d_M_add_18 : decode b_M_add 18 = .ok (.iload_n 2, 1) := by decide +kernel
theorem d_M_add_19 : decode b_M_add 19 = .ok (.bipush 8, 2) := by decide +kernel
theorem d_M_add_21 : decode b_M_add 21 = .ok (.if_icmp .ge 16, 3) := by decide +kernel
theorem d_M_add_24 : decode b_M_add 24 = .ok (.aload_n 0, 1) := by decide +kernel
theorem d_M_add_25 : decode b_M_add 25 = .ok (.iload_n 1, 1) := by decide +kernel
theorem d_M_add_26 : decode b_M_add 26 = .ok (.iload_n 2, 1) := by decide +kernel
theorem d_M_add_27 : decode b_M_add 27 = .ok (.iload_n 2, 1) := by decide +kernel
theorem d_M_add_28 : decode b_M_add 28 = .ok (.invokevirtual 27, 3) := by decide +kernel
theorem d_M_add_31 : decode b_M_add 31 = .ok (.iinc 2 1, 3) := by decide +kernel
theorem d_M_add_34 : decode b_M_add 34 = .ok (.goto (-16), 3) := by decide +kernel
theorem d_M_add_37 : decode b_M_add 37 = .ok (.aload_n 0, 1) := by decide +kernel
theorem d_M_add_38 : decode b_M_add 38 = .ok (.getfield 16, 3) := by decide +kernel
theorem d_M_add_41 : decode b_M_add 41 = .ok (.iload_n 1, 1) := by decide +kernel
theorem d_M_add_42 : decode b_M_add 42 = .ok (.iconst 1, 1) := by decide +kernel
theorem d_M_add_43 : decode b_M_add 43 = .ok (.iastore, 1) := by decide +kernel
theorem d_M_add_44 : decode b_M_add 44 = .ok (.aload_n 0, 1) := by decide +kernel
theorem d_M_add_45 : decode b_M_add 45 = .ok (.dup, 1) := by decide +kernel
theorem d_M_add_46 : decode b_M_add 46 = .ok (.getfield 24, 3) := by decide +kernel
theorem d_M_add_49 : decode b_M_add 49 = .ok (.iconst 1, 1) := by decide +kernel
theorem d_M_add_50 : decode b_M_add 50 = .ok (.iadd, 1) := by decide +kernel
theorem d_M_add_51 : decode b_M_add 51 = .ok (.putfield 24, 3) := by decide +kernel
theorem d_M_add_54 : decode b_M_add 54 = .ok (.iload_n 1, 1) := by decide +kernel
theorem d_M_add_55 : decode b_M_add 55 = .ok (.ireturn, 1) := by decide +kernel
theorem d_M_bring_0 : decode b_M_bring 0 = .ok (.aload_n 0, 1) := by decide +kernel
theorem d_M_bring_1 : decode b_M_bring 1 = .ok (.getfield 11, 3) := by decide +kernel
theorem d_M_bring_4 : decode b_M_bring 4 = .ok (.iload_n 1, 1) := by decide +kernel
theorem d_M_bring_5 : decode b_M_bring 5 = .ok (.aaload, 1) := by decide +kernel
theorem d_M_bring_6 : decode b_M_bring 6 = .ok (.astore_n 3, 1) := by decide +kernel
theorem d_M_bring_7 : decode b_M_bring 7 = .ok (.iconst 0, 1) := by decide +kernel
theorem d_M_bring_8 : decode b_M_bring 8 = .ok (.istore 4, 2) := by decide +kernel
theorem d_M_bring_10 : decode b_M_bring 10 = .ok (.iload_n 2, 1) := by decide +kernel
theorem d_M_bring_11 : decode b_M_bring 11 = .ok (.istore 5, 2) := by decide +kernel
theorem d_M_bring_13 : decode b_M_bring 13 = .ok (.iconst 0, 1) := by decide +kernel
theorem d_M_bring_14 : decode b_M_bring 14 = .ok (.istore 6, 2) := by decide +kernel
theorem d_M_bring_16 : decode b_M_bring 16 = .ok (.iload 6, 2) := by decide +kernel
theorem d_M_bring_18 : decode b_M_bring 18 = .ok (.aload_n 0, 1) := by decide +kernel
theorem d_M_bring_19 : decode b_M_bring 19 = .ok (.getfield 20, 3) := by decide +kernel
theorem d_M_bring_22 : decode b_M_bring 22 = .ok (.if_icmp .ge 32, 3) := by decide +kernel
theorem d_M_bring_25 : decode b_M_bring 25 = .ok (.iload 4, 2) := by decide +kernel
theorem d_M_bring_27 : decode b_M_bring 27 = .ok (.iload 5, 2) := by decide +kernel
theorem d_M_bring_29 : decode b_M_bring 29 = .ok (.bipush 7, 2) := by decide +kernel
theorem d_M_bring_31 : decode b_M_bring 31 = .ok (.iand, 1) := by decide +kernel
theorem d_M_bring_32 : decode b_M_bring 32 = .ok (.iconst 3, 1) := by decide +kernel
theorem d_M_bring_33 : decode b_M_bring 33 = .ok (.aload_n 3, 1) := by decide +kernel
theorem d_M_bring_34 : decode b_M_bring 34 = .ok (.iload 6, 2) := by decide +kernel
theorem d_M_bring_36 : decode b_M_bring 36 = .ok (.iaload, 1) := by decide +kernel
theorem d_M_bring_37 : decode b_M_bring 37 = .ok (.imul, 1) := by decide +kernel
theorem d_M_bring_38 : decode b_M_bring 38 = .ok (.ishl, 1) := by decide +kernel
theorem d_M_bring_39 : decode b_M_bring 39 = .ok (.ior, 1) := by decide +kernel
theorem d_M_bring_40 : decode b_M_bring 40 = .ok (.istore 4, 2) := by decide +kernel
theorem d_M_bring_42 : decode b_M_bring 42 = .ok (.iload 5, 2) := by decide +kernel
theorem d_M_bring_44 : decode b_M_bring 44 = .ok (.iconst 3, 1) := by decide +kernel
theorem d_M_bring_45 : decode b_M_bring 45 = .ok (.iushr, 1) := by decide +kernel
theorem d_M_bring_46 : decode b_M_bring 46 = .ok (.istore 5, 2) := by decide +kernel
theorem d_M_bring_48 : decode b_M_bring 48 = .ok (.iinc 6 1, 3) := by decide +kernel
theorem d_M_bring_51 : decode b_M_bring 51 = .ok (.goto (-35), 3) := by decide +kernel
theorem d_M_bring_54 : decode b_M_bring 54 = .ok (.iload 4, 2) := by decide +kernel
theorem d_M_bring_56 : decode b_M_bring 56 = .ok (.ireturn, 1) := by decide +kernel
theorem d_X_firstState_0 : decode b_X_firstState 0 = .ok (.iconst 0, 1) := by decide +kernel
theorem d_X_firstState_1 : decode b_X_firstState 1 = .ok (.istore_n 1, 1) := by decide +kernel
theorem d_X_firstState_2 : decode b_X_firstState 2 = .ok (.iconst 0, 1) := by decide +kernel
theorem d_X_firstState_3 : decode b_X_firstState 3 = .ok (.istore_n 2, 1) := by decide +kernel
theorem d_X_firstState_4 : decode b_X_firstState 4 = .ok (.iload_n 2, 1) := by decide +kernel
theorem d_X_firstState_5 : decode b_X_firstState 5 = .ok (.iload_n 0, 1) := by decide +kernel
theorem d_X_firstState_6 : decode b_X_firstState 6 = .ok (.if_icmp .ge 17, 3) := by decide +kernel
theorem d_X_firstState_9 : decode b_X_firstState 9 = .ok (.iload_n 1, 1) := by decide +kernel
theorem d_X_firstState_10 : decode b_X_firstState 10 = .ok (.iload_n 2, 1) := by decide +kernel
theorem d_X_firstState_11 : decode b_X_firstState 11 = .ok (.iconst 3, 1) := by decide +kernel
theorem d_X_firstState_12 : decode b_X_firstState 12 = .ok (.iload_n 2, 1) := by decide +kernel
theorem d_X_firstState_13 : decode b_X_firstState 13 = .ok (.imul, 1) := by decide +kernel
theorem d_X_firstState_14 : decode b_X_firstState 14 = .ok (.ishl, 1) := by decide +kernel
theorem d_X_firstState_15 : decode b_X_firstState 15 = .ok (.ior, 1) := by decide +kernel
theorem d_X_firstState_16 : decode b_X_firstState 16 = .ok (.istore_n 1, 1) := by decide +kernel
theorem d_X_firstState_17 : decode b_X_firstState 17 = .ok (.iinc 2 1, 3) := by decide +kernel
theorem d_X_firstState_20 : decode b_X_firstState 20 = .ok (.goto (-16), 3) := by decide +kernel
theorem d_X_firstState_23 : decode b_X_firstState 23 = .ok (.iload_n 1, 1) := by decide +kernel
theorem d_X_firstState_24 : decode b_X_firstState 24 = .ok (.ireturn, 1) := by decide +kernel
theorem kw_0 : (Cond.selects "TwoEndSearch$Moves" ⟨"TwoEndSearch$Moves", "aim", "(III)V"⟩ ⟨"TwoEndSearch$Moves", "aim", "(III)V"⟩ : Cond) ∈ bigW := bigW_of 0 (by decide +kernel) (by decide +kernel)
theorem kw_32 : (Cond.initialized "TwoEndSearch$Moves" : Cond) ∈ bigW := bigW_of 32 (by decide +kernel) (by decide +kernel)
theorem kw_104 : (Cond.methodLink "TwoEndSearch$Moves" 27 ⟨"TwoEndSearch$Moves", "aim", "(III)V"⟩ : Cond) ∈ bigW := bigW_of 104 (by decide +kernel) (by decide +kernel)
theorem kw_106 : (Cond.instanceMethod ⟨"TwoEndSearch$Moves", "aim", "(III)V"⟩ : Cond) ∈ bigW := bigW_of 106 (by decide +kernel) (by decide +kernel)
theorem kw_107 : (Cond.code ⟨"TwoEndSearch$Moves", "aim", "(III)V"⟩ prog_4_method_10_code 4 none : Cond) ∈ bigW := bigW_of 107 (by decide +kernel) (by decide +kernel)
def po_M_add (q : wz_Q) (a : Nat → Nat) (n k : Nat) (r : Nat → Nat) (f : Nat → Int32) (M : Nat → Nat → Int32) : Int32 → wz_G → Prop := fun v w => (6 ≤ k ∧ v = -1 ∧ w = [mv_W q a n k r f, wz_rows 12 r (fun i9 => .inl (q.1, 8, .inl (M i9)))]) ∨ (k < 6 ∧ v = nI k ∧ ∃ M' : Nat → Nat → Int32, w = [mv_W q a n (k + 1) r (upd f k (nI 1)), wz_rows 12 r (fun i9 => .inl (q.1, 8, .inl (M' i9)))] ∧ (∀ p, p < 8 → M' k p = nI p ∧ M' (k + 6) p = nI p) ∧ ∀ i, i ≠ k → i ≠ k + 6 → M' i = M i)
set_option maxHeartbeats 4000000 in
set_option maxRecDepth 100000 in
/-- a move that leaves everything -/
theorem c_M_add (l : Launch) (D : va_G) (q : wz_Q) (a : Nat → Nat) (n k : Nat) (r : Nat → Nat) (f : Nat → Int32) (M : Nat → Nat → Int32) (hk : k ≤ 6) : wz_Mi l y_M_add ws_M_add ({ frames := 1, cells := 0, slots := 0, locals := 23 } : Room) D q ([.ref (a 0)] : List Value) [mv_W q a n k r f, wz_rows 12 r (fun i9 => .inl (q.1, 8, .inl (M i9)))] (po_M_add q a n k r f M) 0 0 := by
  intro sz
  refine wz_enter (cc := b_M_add) (maxL := 3) (ret := (some .int)) (Qc := fun A => (va_Qi (po_M_add q a n k r f M) (wz_At D q A) A)) (by decide) (Nat.le_of_ble_eq_true rfl) ?_
  intro p e s m below meth c A ls C hP hD hS hl
  obtain ⟨hx, hb, hr, hml, hlocks, hown, hts, hN, hK, hA, hnm⟩ := C
  have hown : s.vm.findClass "TwoEndSearch$Moves" = some m.cls := hown
  have hl : lv_has ls 3 [(0, .ref (a 0))] := hl
  refine lv_aload_n hx hb d_M_add_0 rfl (lv_at hl 0 rfl) ?_
  refine wz_get (v := .int (nI k)) (T := T_M) (N := 4) hx hb hts i_M hown hK hP 0 0 rfl rfl rfl 3 (by decide) (hts _ kw_63) rfl rfl d_M_add_1 ?_
  refine lv_bipush (v := nI 6) hx hb d_M_add_4 (by decide) ?_
  refine wz_lt (tgt := 11) hx hb d_M_add_6 (by decide) (by omega) (by omega) (fun hc => ?_) (fun hc => ?_)
  · skip
    refine lv_aload_n hx hb d_M_add_11 rfl (lv_at hl 0 rfl) ?_
    refine wz_get (v := .int (nI k)) (T := T_M) (N := 4) hx hb hts i_M hown hK hP 0 0 rfl rfl rfl 3 (by decide) (hts _ kw_63) rfl rfl d_M_add_12 ?_
    refine lv_istore_n (lv' := [(1, .int (nI k)), (0, .ref (a 0))]) hx hb d_M_add_15 rfl hl (by decide) rfl (fun ls hl => ?_)
    refine lv_iconst (v := nI 0) hx hb d_M_add_16 (by decide) ?_
    refine lv_istore_n (lv' := [(2, .int (nI 0)), (1, .int (nI k)), (0, .ref (a 0))]) hx hb d_M_add_17 rfl hl (by decide) rfl (fun ls hl => ?_)
    have loop : ∀ (d : Nat) (i : Nat) (M1 : Nat → Nat → Int32), i ≤ 8 → 9 ≤ i + d → (∀ p, p < i → M1 k p = nI p ∧ M1 (k + 6) p = nI p) → (∀ j, j ≠ k → j ≠ k + 6 → M1 j = M j) → ∀ (H : Heap) (locs : List Loc) (ls : Array Slot), va_P D vwCl ([mv_W q a n k r f, wz_rows 12 r (fun i9 => .inl (q.1, 8, .inl (M1 i9)))] : wz_G).flatten H → va_D A ([mv_W q a n k r f, wz_rows 12 r (fun i9 => .inl (q.1, 8, .inl (M1 i9)))] : wz_G).flatten → va_S A s.heap H locs → lv_has ls 3 [(0, .ref (a 0)), (1, .int (nI k)), (2, .int (nI i))] → W p l e ({ frames := 1, cells := 0, slots := 0, locals := 23 } : Room) s m ([.ref (a 0)] : List Value).toArray below meth c H locs 0 0 (MQ below (va_Qi (po_M_add q a n k r f M) (wz_At D q A) A) ([.ref (a 0)] : List Value).toArray s 0 0 A) (F0 m 18 ls []) := by
      intro d
      induction d with
      | zero =>
        intro i M1 hi hd h1 h2
        omega
      | succ d ih =>
        intro i M1 hi hd h1 h2 H locs ls hP hD hS hl
        refine lv_iload_n hx hb d_M_add_18 rfl (lv_at hl 2 rfl) ?_
        refine lv_bipush (v := nI 8) hx hb d_M_add_19 (by decide) ?_
        refine wz_ge (tgt := 37) hx hb d_M_add_21 (by decide) (by omega) (by omega) (fun hc2 => ?_) (fun hc2 => ?_)
        · skip
          refine lv_aload_n hx hb d_M_add_37 rfl (lv_at hl 0 rfl) ?_
          refine wz_get (v := .ref (a 2)) (T := T_M) (N := 4) hx hb hts i_M hown hK hP 0 0 rfl rfl rfl 2 (by decide) (hts _ kw_62) rfl rfl d_M_add_38 ?_
          refine lv_iload_n hx hb d_M_add_41 rfl (lv_at hl 1 rfl) ?_
          refine lv_iconst (v := nI 1) hx hb d_M_add_42 (by decide) ?_
          refine wz_iast (gs' := [mv_W q a n k r (upd f k (nI 1)), wz_rows 12 r (fun i9 => .inl (q.1, 8, .inl (M1 i9)))]) hx hb hK hP hD hS 0 2 (j := k) rfl rfl (by omega) (by decide) d_M_add_43 rfl (fun H locs hP hD hS => ?_)
          refine lv_aload_n hx hb d_M_add_44 rfl (lv_at hl 0 rfl) ?_
          refine lv_dup hx hb d_M_add_45 rfl ?_
          refine wz_get (v := .int (nI k)) (T := T_M) (N := 4) hx hb hts i_M hown hK hP 0 0 rfl rfl rfl 3 (by decide) (hts _ kw_63) rfl rfl d_M_add_46 ?_
          refine lv_iconst (v := nI 1) hx hb d_M_add_49 (by decide) ?_
          refine lv_iadd hx hb d_M_add_50 ?_
          refine wz_topi (y := nI (k + 1)) (nI_add k 1) ?_
          refine wz_put (gs' := [mv_W q a n (k + 1) r (upd f k (nI 1)), wz_rows 12 r (fun i9 => .inl (q.1, 8, .inl (M1 i9)))]) (v := .int (nI (k + 1))) (T := T_M) (N := 4) hx hb hts i_M t_M t_M_ok n_M hown hK hP hD hS 0 0 rfl rfl rfl 3 (by decide) (hts _ kw_63) rfl rfl (ty := t_M 3) (by decide +kernel) rfl rfl (Nat.le_of_ble_eq_true rfl) d_M_add_51 rfl (fun H locs hP hD hS => ?_)
          refine lv_iload_n hx hb d_M_add_54 rfl (lv_at hl 1 rfl) ?_
          exact wz_iret hx hb hr hlocks hK hP hD hS d_M_add_55 (Or.inr ⟨hc, rfl, M1, rfl, fun p hp => h1 p (by omega), h2⟩)
        · skip
          refine lv_aload_n hx hb d_M_add_24 rfl (lv_at hl 0 rfl) ?_
          refine lv_iload_n hx hb d_M_add_25 rfl (lv_at hl 1 rfl) ?_
          refine lv_iload_n hx hb d_M_add_26 rfl (lv_at hl 2 rfl) ?_
          refine lv_iload_n hx hb d_M_add_27 rfl (lv_at hl 2 rfl) ?_
          have hQ := wz_split (n := 2) (gc := [mv_W q a n k r f, wz_rows 12 r (fun i9 => .inl (q.1, 8, .inl (M1 i9)))]) (gr := []) [0, 1] [] rfl (by decide) rfl rfl hP hD
          refine wz_callv (va_runV (As := [.int (nI k), .int (nI i), .int (nI i)]) (rest := []) ⟨hx, hb, hml, hown, hts⟩ (c_M_aim l D q a n k r f M1 k i i (by omega) (by omega) (by omega) H.size) (cwV 3 hts (wz_goodV kw_104 kw_106 kw_0 kw_32 kw_107) rfl rfl rfl (by decide +kernel) ⟨Nat.le_of_ble_eq_true rfl, Nat.le_of_ble_eq_true rfl⟩) (wz_preV (gi := 0) (k := 0) hN hK hQ wz_L_ok rfl rfl rfl) rfl rfl hl.1 rfl (lv_room (Nat.le_of_ble_eq_true rfl)) d_M_add_28 ⟨Nat.le_of_ble_eq_true rfl, Nat.le_of_ble_eq_true rfl⟩) hQ hS hA (fun gx H locs hp hP hD hS => ?_)
          have hp : gx = _ := hp
          subst hp
          obtain ⟨hP, hD⟩ := wz_ord (n := 2) (gs' := [mv_W q a n k r f, wz_rows 12 r (fun i9 => .inl (q.1, 8, .inl ((mv_aim M1 k i i) i9)))]) [0, 1] rfl (by decide) rfl hP hD
          refine lv_iinc (v := nI (i + 1)) (lv' := [(2, .int (nI (i + 1))), (0, .ref (a 0)), (1, .int (nI k))]) hx hb d_M_add_31 hl (k := 2) rfl (nI_1 i) (by decide) rfl (fun ls hl => ?_)
          refine lv_goto (tgt := 18) hx hb d_M_add_34 (by decide) ?_
          exact ih (i + 1) (mv_aim M1 k i i) (by omega) (by omega) (fun p hp => mv_aim_self h1 p hp) (fun j hj1 hj2 => (mv_aim_n M1 hj1 hj2).trans (h2 j hj1 hj2)) _ _ _ hP hD hS (lv_sub hl [1, 2, 0] rfl)
    exact loop 9 0 M (by omega) (by omega) (fun p hp => absurd hp (by omega)) (fun _ _ _ => rfl) _ _ _ hP hD hS (lv_sub hl [2, 1, 0] rfl)
  · skip
    refine lv_iconst (v := (-1)) hx hb d_M_add_9 (by decide) ?_
    exact wz_iret hx hb hr hlocks hK hP hD hS d_M_add_10 (Or.inl ⟨by omega, rfl, rfl⟩)
def po_M_bring (q : wz_Q) (a : Nat → Nat) (n k : Nat) (r : Nat → Nat) (f : Nat → Int32) (M : Nat → Nat → Int32) (u cd : Nat) (sg tu : Nat → Nat) : Int32 → wz_G → Prop := fun v w => w = [mv_W q a n k r f, wz_rows 12 r (fun i9 => .inl (q.1, 8, .inl (M i9)))] ∧ v = nI (pz_act n tu cd)
set_option maxHeartbeats 4000000 in
set_option maxRecDepth 100000 in
/-- a state with a move done to it -/
theorem c_M_bring (l : Launch) (D : va_G) (q : wz_Q) (a : Nat → Nat) (n k : Nat) (r : Nat → Nat) (f : Nat → Int32) (M : Nat → Nat → Int32) (u cd : Nat) (sg tu : Nat → Nat) (hn : n ≤ 8) (hu : u < 12) (hc8 : cd < 8 ^ n) (hs : ∀ p, p < n → M u p = nI (sg p)) (hpm : pz_perm n sg tu) : wz_Mi l y_M_bring ws_M_bring ({ frames := 0, cells := 0, slots := 0, locals := 0 } : Room) D q ([.ref (a 0), .int (nI u), .int (nI cd)] : List Value) [mv_W q a n k r f, wz_rows 12 r (fun i9 => .inl (q.1, 8, .inl (M i9)))] (po_M_bring q a n k r f M u cd sg tu) 0 0 := by
  intro sz
  refine wz_enter (cc := b_M_bring) (maxL := 7) (ret := (some .int)) (Qc := fun A => (va_Qi (po_M_bring q a n k r f M u cd sg tu) (wz_At D q A) A)) (by decide) (Nat.le_of_ble_eq_true rfl) ?_
  intro p e s m below meth c A ls C hP hD hS hl
  obtain ⟨hx, hb, hr, hml, hlocks, hown, hts, hN, hK, hA, hnm⟩ := C
  have hown : s.vm.findClass "TwoEndSearch$Moves" = some m.cls := hown
  have hl : lv_has ls 7 [(0, .ref (a 0)), (1, .int (nI u)), (2, .int (nI cd))] := hl
  have hc24 := pz_lt31 hn hc8
  refine lv_aload_n hx hb d_M_bring_0 rfl (lv_at hl 0 rfl) ?_
  refine wz_get (v := .ref (a 1)) (T := T_M) (N := 4) hx hb hts i_M hown hK hP 0 0 rfl rfl rfl 1 (by decide) (hts _ kw_61) rfl rfl d_M_bring_1 ?_
  refine lv_iload_n hx hb d_M_bring_4 rfl (lv_at hl 1 rfl) ?_
  refine wz_aald hx hb hK hP 0 1 (j := u) (r := r) rfl rfl (by omega) (by decide) d_M_bring_5 ?_
  refine lv_astore_n (lv' := [(3, .ref (r u)), (0, .ref (a 0)), (1, .int (nI u)), (2, .int (nI cd))]) hx hb d_M_bring_6 rfl hl (by decide) rfl (fun ls hl => ?_)
  refine lv_iconst (v := nI 0) hx hb d_M_bring_7 (by decide) ?_
  refine lv_istore (lv' := [(4, .int (nI 0)), (3, .ref (r u)), (0, .ref (a 0)), (1, .int (nI u)), (2, .int (nI cd))]) hx hb d_M_bring_8 hl (by decide) rfl (fun ls hl => ?_)
  refine lv_iload_n hx hb d_M_bring_10 rfl (lv_at hl 4 rfl) ?_
  refine lv_istore (lv' := [(5, .int (nI cd)), (4, .int (nI 0)), (3, .ref (r u)), (0, .ref (a 0)), (1, .int (nI u)), (2, .int (nI cd))]) hx hb d_M_bring_11 hl (by decide) rfl (fun ls hl => ?_)
  refine lv_iconst (v := nI 0) hx hb d_M_bring_13 (by decide) ?_
  refine lv_istore (lv' := [(6, .int (nI 0)), (5, .int (nI cd)), (4, .int (nI 0)), (3, .ref (r u)), (0, .ref (a 0)), (1, .int (nI u)), (2, .int (nI cd))]) hx hb d_M_bring_14 hl (by decide) rfl (fun ls hl => ?_)
  have loop : ∀ (d : Nat) (i B : Nat), i ≤ n → n + 1 ≤ i + d → mv_br n cd i tu B → ∀ (H : Heap) (locs : List Loc) (ls : Array Slot), va_P D vwCl ([mv_W q a n k r f, wz_rows 12 r (fun i9 => .inl (q.1, 8, .inl (M i9)))] : wz_G).flatten H → va_D A ([mv_W q a n k r f, wz_rows 12 r (fun i9 => .inl (q.1, 8, .inl (M i9)))] : wz_G).flatten → va_S A s.heap H locs → lv_has ls 7 [(0, .ref (a 0)), (1, .int (nI u)), (2, .int (nI cd)), (3, .ref (r u)), (4, .int (nI B)), (5, .int (nI (cd / 8 ^ i))), (6, .int (nI i))] → W p l e ({ frames := 0, cells := 0, slots := 0, locals := 0 } : Room) s m ([.ref (a 0), .int (nI u), .int (nI cd)] : List Value).toArray below meth c H locs 0 0 (MQ below (va_Qi (po_M_bring q a n k r f M u cd sg tu) (wz_At D q A) A) ([.ref (a 0), .int (nI u), .int (nI cd)] : List Value).toArray s 0 0 A) (F0 m 16 ls []) := by
    intro d
    induction d with
    | zero =>
      intro i B hi hd hB
      omega
    | succ d ih =>
      intro i B hi hd hB H locs ls hP hD hS hl
      refine lv_iload hx hb d_M_bring_16 (lv_at hl 6 rfl) ?_
      refine lv_aload_n hx hb d_M_bring_18 rfl (lv_at hl 0 rfl) ?_
      refine wz_get (v := .int (nI n)) (T := T_M) (N := 4) hx hb hts i_M hown hK hP 0 0 rfl rfl rfl 0 (by decide) (hts _ kw_60) rfl rfl d_M_bring_19 ?_
      refine wz_ge (tgt := 54) hx hb d_M_bring_22 (by decide) (by omega) (by omega) (fun hc2 => ?_) (fun hc2 => ?_)
      · skip
        have hin : i = n := by omega
        subst hin
        refine lv_iload hx hb d_M_bring_54 (lv_at hl 4 rfl) ?_
        exact wz_iret hx hb hr hlocks hK hP hD hS d_M_bring_56 ⟨rfl, by rw [mv_br_e hpm hB hc8]⟩
      · skip
        have hdl := pz_divlt hn hc8 i
        have hsl := (hpm i hc2).1
        refine lv_iload hx hb d_M_bring_25 (lv_at hl 4 rfl) ?_
        refine lv_iload hx hb d_M_bring_27 (lv_at hl 5 rfl) ?_
        refine lv_bipush (v := nI 7) hx hb d_M_bring_29 (by decide) ?_
        refine lv_iand hx hb d_M_bring_31 ?_
        refine wz_topi (y := nI (pz_dg cd i)) (pz_and7 (by omega)) ?_
        refine lv_iconst (v := nI 3) hx hb d_M_bring_32 (by decide) ?_
        refine lv_aload_n hx hb d_M_bring_33 rfl (lv_at hl 3 rfl) ?_
        refine lv_iload hx hb d_M_bring_34 (lv_at hl 6 rfl) ?_
        refine wz_iald hx hb hK hP 1 u (j := i) rfl (wz_rows_get (by omega)) (by omega) (by decide) d_M_bring_36 ?_
        refine wz_topi (y := nI (sg i)) (hs i hc2) ?_
        refine lv_imul hx hb d_M_bring_37 ?_
        refine wz_topi (y := nI (3 * (sg i))) (pk_mul 3 (sg i)) ?_
        refine lv_ishl hx hb d_M_bring_38 ?_
        refine wz_topi (y := nI (pz_dg cd i * 8 ^ sg i)) (pz_shl (pz_dg_lt _ _) (by omega)) ?_
        refine lv_ior hx hb d_M_bring_39 ?_
        refine wz_topi (y := nI (B + pz_dg cd i * 8 ^ sg i)) (mv_or hpm hB hc2) ?_
        refine lv_istore (lv' := [(4, .int (nI (B + pz_dg cd i * 8 ^ sg i))), (0, .ref (a 0)), (1, .int (nI u)), (2, .int (nI cd)), (3, .ref (r u)), (5, .int (nI (cd / 8 ^ i))), (6, .int (nI i))]) hx hb d_M_bring_40 hl (by decide) rfl (fun ls hl => ?_)
        refine lv_iload hx hb d_M_bring_42 (lv_at hl 5 rfl) ?_
        refine lv_iconst (v := nI 3) hx hb d_M_bring_44 (by decide) ?_
        refine lv_iushr (v := nI (cd / 8 ^ (i + 1))) hx hb d_M_bring_45 ((pz_ushr3 (by omega)).trans (congrArg nI (pz_div8 cd i))) ?_
        refine lv_istore (lv' := [(5, .int (nI (cd / 8 ^ (i + 1)))), (4, .int (nI (B + pz_dg cd i * 8 ^ sg i))), (0, .ref (a 0)), (1, .int (nI u)), (2, .int (nI cd)), (3, .ref (r u)), (6, .int (nI i))]) hx hb d_M_bring_46 hl (by decide) rfl (fun ls hl => ?_)
        refine lv_iinc (v := nI (i + 1)) (lv' := [(6, .int (nI (i + 1))), (5, .int (nI (cd / 8 ^ (i + 1)))), (4, .int (nI (B + pz_dg cd i * 8 ^ sg i))), (0, .ref (a 0)), (1, .int (nI u)), (2, .int (nI cd)), (3, .ref (r u))]) hx hb d_M_bring_48 hl (k := 6) rfl (nI_1 i) (by decide) rfl (fun ls hl => ?_)
        refine lv_goto (tgt := 16) hx hb d_M_bring_51 (by decide) ?_
        exact ih (i + 1) (B + pz_dg cd i * 8 ^ sg i) (by omega) (by omega) (mv_br_s hpm hB hc2) _ _ _ hP hD hS (lv_sub hl [3, 4, 5, 6, 2, 1, 0] rfl)
  have e0 : nI cd = nI (cd / 8 ^ 0) := by rw [Nat.pow_zero, Nat.div_one]
  exact loop (n + 1) 0 0 (by omega) (by omega) (mv_br_0 n cd tu) _ _ _ hP hD hS (by have h9 := lv_sub hl [4, 5, 6, 3, 2, 1, 0] rfl; rw [show nI (cd / 8 ^ 0) = nI cd by rw [Nat.pow_zero, Nat.div_one]]; exact h9)
def po_X_firstState (q : wz_Q) (n : Nat) : Int32 → wz_G → Prop := fun v w => w = [] ∧ v = nI (pz_first n)
set_option maxHeartbeats 4000000 in
set_option maxRecDepth 100000 in
/-- label p at place p -/
theorem c_X_firstState (l : Launch) (D : va_G) (q : wz_Q) (n : Nat) (hn : n ≤ 8) : wz_Mi l y_X_firstState ws_X_firstState ({ frames := 0, cells := 0, slots := 0, locals := 0 } : Room) D q ([.int (nI n)] : List Value) [] (po_X_firstState q n) 0 0 := by
  intro sz
  refine wz_enter (cc := b_X_firstState) (maxL := 3) (ret := (some .int)) (Qc := fun A => (va_Qi (po_X_firstState q n) (wz_At D q A) A)) (by decide) (Nat.le_of_ble_eq_true rfl) ?_
  intro p e s m below meth c A ls C hP hD hS hl
  obtain ⟨hx, hb, hr, hml, hlocks, hown, hts, hN, hK, hA, hnm⟩ := C
  have hown : s.vm.findClass "TwoEndSearch" = some m.cls := hown
  have hl : lv_has ls 3 [(0, .int (nI n))] := hl
  refine lv_iconst (v := nI 0) hx hb d_X_firstState_0 (by decide) ?_
  refine lv_istore_n (lv' := [(1, .int (nI 0)), (0, .int (nI n))]) hx hb d_X_firstState_1 rfl hl (by decide) rfl (fun ls hl => ?_)
  refine lv_iconst (v := nI 0) hx hb d_X_firstState_2 (by decide) ?_
  refine lv_istore_n (lv' := [(2, .int (nI 0)), (1, .int (nI 0)), (0, .int (nI n))]) hx hb d_X_firstState_3 rfl hl (by decide) rfl (fun ls hl => ?_)
  have loop : ∀ (d : Nat) (i : Nat), i ≤ n → n + 1 ≤ i + d → ∀ (H : Heap) (locs : List Loc) (ls : Array Slot), va_P D vwCl ([] : wz_G).flatten H → va_D A ([] : wz_G).flatten → va_S A s.heap H locs → lv_has ls 3 [(0, .int (nI n)), (1, .int (nI (pz_first i))), (2, .int (nI i))] → W p l e ({ frames := 0, cells := 0, slots := 0, locals := 0 } : Room) s m ([.int (nI n)] : List Value).toArray below meth c H locs 0 0 (MQ below (va_Qi (po_X_firstState q n) (wz_At D q A) A) ([.int (nI n)] : List Value).toArray s 0 0 A) (F0 m 4 ls []) := by
    intro d
    induction d with
    | zero =>
      intro i hi hd
      omega
    | succ d ih =>
      intro i hi hd H locs ls hP hD hS hl
      refine lv_iload_n hx hb d_X_firstState_4 rfl (lv_at hl 2 rfl) ?_
      refine lv_iload_n hx hb d_X_firstState_5 rfl (lv_at hl 0 rfl) ?_
      refine wz_ge (tgt := 23) hx hb d_X_firstState_6 (by decide) (by omega) (by omega) (fun hc2 => ?_) (fun hc2 => ?_)
      · skip
        have hin : i = n := by omega
        subst hin
        refine lv_iload_n hx hb d_X_firstState_23 rfl (lv_at hl 1 rfl) ?_
        exact wz_iret hx hb hr hlocks hK hP hD hS d_X_firstState_24 ⟨rfl, rfl⟩
      · skip
        refine lv_iload_n hx hb d_X_firstState_9 rfl (lv_at hl 1 rfl) ?_
        refine lv_iload_n hx hb d_X_firstState_10 rfl (lv_at hl 2 rfl) ?_
        refine lv_iconst (v := nI 3) hx hb d_X_firstState_11 (by decide) ?_
        refine lv_iload_n hx hb d_X_firstState_12 rfl (lv_at hl 2 rfl) ?_
        refine lv_imul hx hb d_X_firstState_13 ?_
        refine wz_topi (y := nI (3 * i)) (pk_mul 3 i) ?_
        refine lv_ishl hx hb d_X_firstState_14 ?_
        refine wz_topi (y := nI (i * 8 ^ i)) (pz_shl (by omega) (by omega)) ?_
        refine lv_ior hx hb d_X_firstState_15 ?_
        refine wz_topi (y := nI (pz_first (i + 1))) ((pz_nI_or _ _).trans (congrArg nI (pz_first_or (by omega)))) ?_
        refine lv_istore_n (lv' := [(1, .int (nI (pz_first (i + 1)))), (0, .int (nI n)), (2, .int (nI i))]) hx hb d_X_firstState_16 rfl hl (by decide) rfl (fun ls hl => ?_)
        refine lv_iinc (v := nI (i + 1)) (lv' := [(2, .int (nI (i + 1))), (1, .int (nI (pz_first (i + 1)))), (0, .int (nI n))]) hx hb d_X_firstState_17 hl (k := 2) rfl (nI_1 i) (by decide) rfl (fun ls hl => ?_)
        refine lv_goto (tgt := 4) hx hb d_X_firstState_20 (by decide) ?_
        exact ih (i + 1) (by omega) (by omega) _ _ _ hP hD hS (lv_sub hl [2, 1, 0] rfl)
  exact loop (n + 1) 0 (by omega) (by omega) _ _ _ hP hD hS (lv_sub hl [2, 1, 0] rfl)
