theorem d_A_fill_0 : decode b_A_fill 0 = .ok (.iconst 0, 1) := by decide +kernel
theorem d_A_fill_1 : decode b_A_fill 1 = .ok (.istore_n 2, 1) := by decide +kernel
theorem d_A_fill_2 : decode b_A_fill 2 = .ok (.aload_n 0, 1) := by decide +kernel
theorem d_A_fill_3 : decode b_A_fill 3 = .ok (.arraylength, 1) := by decide +kernel
theorem d_A_fill_4 : decode b_A_fill 4 = .ok (.istore_n 3, 1) := by decide +kernel
theorem d_A_fill_5 : decode b_A_fill 5 = .ok (.iload_n 2, 1) := by decide +kernel
theorem d_A_fill_6 : decode b_A_fill 6 = .ok (.iload_n 3, 1) := by decide +kernel
theorem d_A_fill_7 : decode b_A_fill 7 = .ok (.if_icmp .ge 13, 3) := by decide +kernel
theorem d_A_fill_10 : decode b_A_fill 10 = .ok (.aload_n 0, 1) := by decide +kernel
theorem d_A_fill_11 : decode b_A_fill 11 = .ok (.iload_n 2, 1) := by decide +kernel
theorem d_A_fill_12 : decode b_A_fill 12 = .ok (.iload_n 1, 1) := by decide +kernel
theorem d_A_fill_13 : decode b_A_fill 13 = .ok (.iastore, 1) := by decide +kernel
theorem d_A_fill_14 : decode b_A_fill 14 = .ok (.iinc 2 1, 3) := by decide +kernel
theorem d_A_fill_17 : decode b_A_fill 17 = .ok (.goto (-12), 3) := by decide +kernel
theorem d_A_fill_20 : decode b_A_fill 20 = .ok (.return_, 1) := by decide +kernel
theorem d_X_arrangements_0 : decode b_X_arrangements 0 = .ok (.iconst 1, 1) := by decide +kernel
theorem d_X_arrangements_1 : decode b_X_arrangements 1 = .ok (.istore_n 1, 1) := by decide +kernel
theorem d_X_arrangements_2 : decode b_X_arrangements 2 = .ok (.iconst 2, 1) := by decide +kernel
theorem d_X_arrangements_3 : decode b_X_arrangements 3 = .ok (.istore_n 2, 1) := by decide +kernel
theorem d_X_arrangements_4 : decode b_X_arrangements 4 = .ok (.iload_n 2, 1) := by decide +kernel
theorem d_X_arrangements_5 : decode b_X_arrangements 5 = .ok (.iload_n 0, 1) := by decide +kernel
theorem d_X_arrangements_6 : decode b_X_arrangements 6 = .ok (.if_icmp .gt 13, 3) := by decide +kernel
theorem d_X_arrangements_9 : decode b_X_arrangements 9 = .ok (.iload_n 1, 1) := by decide +kernel
theorem d_X_arrangements_10 : decode b_X_arrangements 10 = .ok (.iload_n 2, 1) := by decide +kernel
theorem d_X_arrangements_11 : decode b_X_arrangements 11 = .ok (.imul, 1) := by decide +kernel
theorem d_X_arrangements_12 : decode b_X_arrangements 12 = .ok (.istore_n 1, 1) := by decide +kernel
theorem d_X_arrangements_13 : decode b_X_arrangements 13 = .ok (.iinc 2 1, 3) := by decide +kernel
theorem d_X_arrangements_16 : decode b_X_arrangements 16 = .ok (.goto (-12), 3) := by decide +kernel
theorem d_X_arrangements_19 : decode b_X_arrangements 19 = .ok (.iload_n 1, 1) := by decide +kernel
theorem d_X_arrangements_20 : decode b_X_arrangements 20 = .ok (.ireturn, 1) := by decide +kernel
theorem d_M_init_0 : decode b_M_init 0 = .ok (.aload_n 0, 1) := by decide +kernel
theorem d_M_init_1 : decode b_M_init 1 = .ok (.invokespecial 3, 3) := by decide +kernel
theorem d_M_init_4 : decode b_M_init 4 = .ok (.aload_n 0, 1) := by decide +kernel
theorem d_M_init_5 : decode b_M_init 5 = .ok (.bipush 12, 2) := by decide +kernel
theorem d_M_init_7 : decode b_M_init 7 = .ok (.bipush 8, 2) := by decide +kernel
theorem d_M_init_9 : decode b_M_init 9 = .ok (.multianewarray 9 2, 4) := by decide +kernel
theorem d_M_init_13 : decode b_M_init 13 = .ok (.putfield 11, 3) := by decide +kernel
theorem d_M_init_16 : decode b_M_init 16 = .ok (.aload_n 0, 1) := by decide +kernel
theorem d_M_init_17 : decode b_M_init 17 = .ok (.bipush 6, 2) := by decide +kernel
theorem d_M_init_19 : decode b_M_init 19 = .ok (.newarray .int, 2) := by decide +kernel
theorem d_M_init_21 : decode b_M_init 21 = .ok (.putfield 16, 3) := by decide +kernel
theorem d_M_init_24 : decode b_M_init 24 = .ok (.aload_n 0, 1) := by decide +kernel
theorem d_M_init_25 : decode b_M_init 25 = .ok (.iload_n 1, 1) := by decide +kernel
theorem d_M_init_26 : decode b_M_init 26 = .ok (.putfield 20, 3) := by decide +kernel
theorem d_M_init_29 : decode b_M_init 29 = .ok (.return_, 1) := by decide +kernel
theorem d_G_init_0 : decode b_G_init 0 = .ok (.aload_n 0, 1) := by decide +kernel
theorem d_G_init_1 : decode b_G_init 1 = .ok (.invokespecial 3, 3) := by decide +kernel
theorem d_G_init_4 : decode b_G_init 4 = .ok (.aload_n 0, 1) := by decide +kernel
theorem d_G_init_5 : decode b_G_init 5 = .ok (.aload_n 2, 1) := by decide +kernel
theorem d_G_init_6 : decode b_G_init 6 = .ok (.putfield 9, 3) := by decide +kernel
theorem d_G_init_9 : decode b_G_init 9 = .ok (.aload_n 0, 1) := by decide +kernel
theorem d_G_init_10 : decode b_G_init 10 = .ok (.iload_n 1, 1) := by decide +kernel
theorem d_G_init_11 : decode b_G_init 11 = .ok (.newarray .int, 2) := by decide +kernel
theorem d_G_init_13 : decode b_G_init 13 = .ok (.putfield 15, 3) := by decide +kernel
theorem d_G_init_16 : decode b_G_init 16 = .ok (.aload_n 0, 1) := by decide +kernel
theorem d_G_init_17 : decode b_G_init 17 = .ok (.bipush 12, 2) := by decide +kernel
theorem d_G_init_19 : decode b_G_init 19 = .ok (.iload_n 1, 1) := by decide +kernel
theorem d_G_init_20 : decode b_G_init 20 = .ok (.multianewarray 19 2, 4) := by decide +kernel
theorem d_G_init_24 : decode b_G_init 24 = .ok (.putfield 21, 3) := by decide +kernel
theorem d_G_init_27 : decode b_G_init 27 = .ok (.iconst 1, 1) := by decide +kernel
theorem d_G_init_28 : decode b_G_init 28 = .ok (.istore_n 3, 1) := by decide +kernel
theorem d_G_init_29 : decode b_G_init 29 = .ok (.iload_n 3, 1) := by decide +kernel
theorem d_G_init_30 : decode b_G_init 30 = .ok (.bipush 30, 2) := by decide +kernel
theorem d_G_init_32 : decode b_G_init 32 = .ok (.if_icmp .ge 20, 3) := by decide +kernel
theorem d_G_init_35 : decode b_G_init 35 = .ok (.iconst 1, 1) := by decide +kernel
theorem d_G_init_36 : decode b_G_init 36 = .ok (.iload_n 3, 1) := by decide +kernel
theorem d_G_init_37 : decode b_G_init 37 = .ok (.ishl, 1) := by decide +kernel
theorem d_G_init_38 : decode b_G_init 38 = .ok (.iload_n 1, 1) := by decide +kernel
theorem d_G_init_39 : decode b_G_init 39 = .ok (.iload_n 1, 1) := by decide +kernel
theorem d_G_init_40 : decode b_G_init 40 = .ok (.iconst 2, 1) := by decide +kernel
theorem d_G_init_41 : decode b_G_init 41 = .ok (.idiv, 1) := by decide +kernel
theorem d_G_init_42 : decode b_G_init 42 = .ok (.iadd, 1) := by decide +kernel
theorem d_G_init_43 : decode b_G_init 43 = .ok (.if_icmp .ge 9, 3) := by decide +kernel
theorem d_G_init_46 : decode b_G_init 46 = .ok (.iinc 3 1, 3) := by decide +kernel
theorem d_G_init_49 : decode b_G_init 49 = .ok (.goto (-20), 3) := by decide +kernel
theorem d_G_init_52 : decode b_G_init 52 = .ok (.aload_n 0, 1) := by decide +kernel
theorem d_G_init_53 : decode b_G_init 53 = .ok (.iconst 1, 1) := by decide +kernel
theorem d_G_init_54 : decode b_G_init 54 = .ok (.iload_n 3, 1) := by decide +kernel
theorem d_G_init_55 : decode b_G_init 55 = .ok (.ishl, 1) := by decide +kernel
theorem d_G_init_56 : decode b_G_init 56 = .ok (.newarray .int, 2) := by decide +kernel
theorem d_G_init_58 : decode b_G_init 58 = .ok (.putfield 24, 3) := by decide +kernel
theorem d_G_init_61 : decode b_G_init 61 = .ok (.aload_n 0, 1) := by decide +kernel
theorem d_G_init_62 : decode b_G_init 62 = .ok (.bipush 32, 2) := by decide +kernel
theorem d_G_init_64 : decode b_G_init 64 = .ok (.iload_n 3, 1) := by decide +kernel
theorem d_G_init_65 : decode b_G_init 65 = .ok (.isub, 1) := by decide +kernel
theorem d_G_init_66 : decode b_G_init 66 = .ok (.putfield 27, 3) := by decide +kernel
theorem d_G_init_69 : decode b_G_init 69 = .ok (.return_, 1) := by decide +kernel
theorem d_B_init_0 : decode b_B_init 0 = .ok (.aload_n 0, 1) := by decide +kernel
theorem d_B_init_1 : decode b_B_init 1 = .ok (.invokespecial 3, 3) := by decide +kernel
theorem d_B_init_4 : decode b_B_init 4 = .ok (.aload_n 0, 1) := by decide +kernel
theorem d_B_init_5 : decode b_B_init 5 = .ok (.aload_n 2, 1) := by decide +kernel
theorem d_B_init_6 : decode b_B_init 6 = .ok (.putfield 9, 3) := by decide +kernel
theorem d_B_init_9 : decode b_B_init 9 = .ok (.aload_n 0, 1) := by decide +kernel
theorem d_B_init_10 : decode b_B_init 10 = .ok (.aload_n 2, 1) := by decide +kernel
theorem d_B_init_11 : decode b_B_init 11 = .ok (.getfield 15, 3) := by decide +kernel
theorem d_B_init_14 : decode b_B_init 14 = .ok (.putfield 21, 3) := by decide +kernel
theorem d_B_init_17 : decode b_B_init 17 = .ok (.aload_n 0, 1) := by decide +kernel
theorem d_B_init_18 : decode b_B_init 18 = .ok (.iload_n 3, 1) := by decide +kernel
theorem d_B_init_19 : decode b_B_init 19 = .ok (.ifCond .eq 8, 3) := by decide +kernel
theorem d_B_init_22 : decode b_B_init 22 = .ok (.bipush 6, 2) := by decide +kernel
theorem d_B_init_24 : decode b_B_init 24 = .ok (.goto 4, 3) := by decide +kernel
theorem d_B_init_27 : decode b_B_init 27 = .ok (.iconst 0, 1) := by decide +kernel
theorem d_B_init_28 : decode b_B_init 28 = .ok (.putfield 22, 3) := by decide +kernel
theorem d_B_init_31 : decode b_B_init 31 = .ok (.aload_n 0, 1) := by decide +kernel
theorem d_B_init_32 : decode b_B_init 32 = .ok (.iload_n 1, 1) := by decide +kernel
theorem d_B_init_33 : decode b_B_init 33 = .ok (.newarray .int, 2) := by decide +kernel
theorem d_B_init_35 : decode b_B_init 35 = .ok (.putfield 26, 3) := by decide +kernel
theorem d_B_init_38 : decode b_B_init 38 = .ok (.aload_n 0, 1) := by decide +kernel
theorem d_B_init_39 : decode b_B_init 39 = .ok (.getfield 26, 3) := by decide +kernel
theorem d_B_init_42 : decode b_B_init 42 = .ok (.iconst (-1), 1) := by decide +kernel
theorem d_B_init_43 : decode b_B_init 43 = .ok (.invokestatic 30, 3) := by decide +kernel
theorem d_B_init_46 : decode b_B_init 46 = .ok (.aload_n 0, 1) := by decide +kernel
theorem d_B_init_47 : decode b_B_init 47 = .ok (.iload_n 1, 1) := by decide +kernel
theorem d_B_init_48 : decode b_B_init 48 = .ok (.newarray .long, 2) := by decide +kernel
theorem d_B_init_50 : decode b_B_init 50 = .ok (.putfield 36, 3) := by decide +kernel
theorem d_B_init_53 : decode b_B_init 53 = .ok (.aload_n 0, 1) := by decide +kernel
theorem d_B_init_54 : decode b_B_init 54 = .ok (.iload_n 1, 1) := by decide +kernel
theorem d_B_init_55 : decode b_B_init 55 = .ok (.newarray .int, 2) := by decide +kernel
theorem d_B_init_57 : decode b_B_init 57 = .ok (.putfield 40, 3) := by decide +kernel
theorem d_B_init_60 : decode b_B_init 60 = .ok (.return_, 1) := by decide +kernel
theorem kw_36 : (Cond.initialized "java/util/Arrays" : Cond) ∈ bigW := bigW_of 36 (by decide +kernel) (by decide +kernel)
theorem kw_57 : (Cond.methodLink "TwoEndSearch$Moves" 3 ⟨"java/lang/Object", "<init>", "()V"⟩ : Cond) ∈ bigW := bigW_of 57 (by decide +kernel) (by decide +kernel)
theorem kw_58 : (Cond.classLink "TwoEndSearch$Moves" 9 "[[I" : Cond) ∈ bigW := bigW_of 58 (by decide +kernel) (by decide +kernel)
theorem kw_94 : (Cond.methodLink "TwoEndSearch$Graph" 3 ⟨"java/lang/Object", "<init>", "()V"⟩ : Cond) ∈ bigW := bigW_of 94 (by decide +kernel) (by decide +kernel)
theorem kw_95 : (Cond.classLink "TwoEndSearch$Graph" 19 "[[I" : Cond) ∈ bigW := bigW_of 95 (by decide +kernel) (by decide +kernel)
theorem kw_121 : (Cond.methodLink "TwoEndSearch$Ball" 3 ⟨"java/lang/Object", "<init>", "()V"⟩ : Cond) ∈ bigW := bigW_of 121 (by decide +kernel) (by decide +kernel)
theorem kw_122 : (Cond.methodLink "TwoEndSearch$Ball" 30 ⟨"java/util/Arrays", "fill", "([II)V"⟩ : Cond) ∈ bigW := bigW_of 122 (by decide +kernel) (by decide +kernel)
theorem kw_123 : (Cond.static ⟨"java/util/Arrays", "fill", "([II)V"⟩ : Cond) ∈ bigW := bigW_of 123 (by decide +kernel) (by decide +kernel)
theorem kw_124 : (Cond.code ⟨"java/util/Arrays", "fill", "([II)V"⟩ prog_9_method_103_code 4 none : Cond) ∈ bigW := bigW_of 124 (by decide +kernel) (by decide +kernel)
def po_A_fill (q : wz_Q) (a9 n : Nat) (f : Nat → Int32) (x : Int32) : wz_G → Prop := fun w => ∃ f', w = [[(a9, .inl (q.1, n, .inl f'))]] ∧ ∀ i, i < n → f' i = x
set_option maxHeartbeats 4000000 in
set_option maxRecDepth 100000 in
/-- every element -/
theorem c_A_fill (l : Launch) (D : va_G) (q : wz_Q) (a9 n : Nat) (f : Nat → Int32) (x : Int32) (hn : n ≤ 65536) : wz_Mv l y_A_fill ws_A_fill ({ frames := 0, cells := 0, slots := 0, locals := 0 } : Room) D q ([.ref a9, .int x] : List Value) [[(a9, .inl (q.1, n, .inl f))]] (po_A_fill q a9 n f x) 0 0 := by
  intro sz9
  refine wz_enter (cc := b_A_fill) (maxL := 4) (ret := none) (Qc := fun A => (va_Qv (po_A_fill q a9 n f x) (wz_At D q A) A)) (by decide) (Nat.le_of_ble_eq_true rfl) ?_
  intro p e s m below meth c A ls C hP hD hS hl
  obtain ⟨hx, hb, hr, hml, hlocks, hown, hts, hN, hK, hA, hnm⟩ := C
  have hown : s.vm.findClass "java/util/Arrays" = some m.cls := hown
  have hl : lv_has ls 4 [(0, .ref a9), (1, .int x)] := hl
  refine lv_iconst (v := nI 0) hx hb d_A_fill_0 (by decide) ?_
  refine lv_istore_n (lv' := [(2, .int (nI 0)), (0, .ref a9), (1, .int x)]) hx hb d_A_fill_1 rfl hl (by decide) rfl (fun ls hl => ?_)
  refine lv_aload_n hx hb d_A_fill_2 rfl (lv_at hl 1 rfl) ?_
  refine wz_alen hx hb hK hP 0 0 (n := n) rfl rfl d_A_fill_3 ?_
  refine lv_istore_n (lv' := [(3, .int (nI n)), (2, .int (nI 0)), (0, .ref a9), (1, .int x)]) hx hb d_A_fill_4 rfl hl (by decide) rfl (fun ls hl => ?_)
  have loop : ∀ (d : Nat) (i : Nat) (f1 : Nat → Int32), i ≤ n → n + 1 ≤ i + d → (∀ j, j < i → f1 j = x) → ∀ (H : Heap) (locs : List Loc) (ls : Array Slot), va_P D vwCl ([[(a9, .inl (q.1, n, .inl f1))]] : wz_G).flatten H → va_D A ([[(a9, .inl (q.1, n, .inl f1))]] : wz_G).flatten → va_S A s.heap H locs → lv_has ls 4 [(0, .ref a9), (1, .int x), (2, .int (nI i)), (3, .int (nI n))] → W p l e ({ frames := 0, cells := 0, slots := 0, locals := 0 } : Room) s m ([.ref a9, .int x] : List Value).toArray below meth c H locs 0 0 (MQ below (va_Qv (po_A_fill q a9 n f x) (wz_At D q A) A) ([.ref a9, .int x] : List Value).toArray s 0 0 A) (F0 m 5 ls []) := by
    intro d
    induction d with
    | zero =>
      intro i f1 hi hd h1
      omega
    | succ d ih =>
      intro i f1 hi hd h1 H locs ls hP hD hS hl
      refine lv_iload_n hx hb d_A_fill_5 rfl (lv_at hl 2 rfl) ?_
      refine lv_iload_n hx hb d_A_fill_6 rfl (lv_at hl 3 rfl) ?_
      refine wz_ge (tgt := 20) hx hb d_A_fill_7 (by decide) (by omega) (by omega) (fun hc => ?_) (fun hc => ?_)
      · skip
        have hin : i = n := by omega
        subst hin
        exact wz_vret hx hb hr hlocks hK hP hD hS d_A_fill_20 ⟨f1, rfl, h1⟩
      · skip
        refine lv_aload_n hx hb d_A_fill_10 rfl (lv_at hl 0 rfl) ?_
        refine lv_iload_n hx hb d_A_fill_11 rfl (lv_at hl 2 rfl) ?_
        refine lv_iload_n hx hb d_A_fill_12 rfl (lv_at hl 1 rfl) ?_
        refine wz_iast (gs' := [[(a9, .inl (q.1, n, .inl (upd f1 i x)))]]) hx hb hK hP hD hS 0 0 (j := i) rfl rfl (by omega) (by omega) d_A_fill_13 rfl (fun H locs hP hD hS => ?_)
        refine lv_iinc (v := nI (i + 1)) (lv' := [(2, .int (nI (i + 1))), (0, .ref a9), (1, .int x), (3, .int (nI n))]) hx hb d_A_fill_14 hl (k := 2) rfl (nI_1 i) (by decide) rfl (fun ls hl => ?_)
        refine lv_goto (tgt := 5) hx hb d_A_fill_17 (by decide) ?_
        exact ih (i + 1) (upd f1 i x) (by omega) (by omega) (fun j hj => by
          by_cases e0 : j = i
          · subst e0; exact pk_us
          · exact (pk_un e0).trans (h1 j (by omega))) _ _ _ hP hD hS (lv_sub hl [1, 2, 0, 3] rfl)
  exact loop (n + 1) 0 f (by omega) (by omega) (fun j h0 => absurd h0 (by omega)) _ _ _ hP hD hS (lv_sub hl [2, 3, 1, 0] rfl)
def po_X_arrangements (q : wz_Q) (n : Nat) : Int32 → wz_G → Prop := fun v w => w = [] ∧ v = nI (pz_fact n)
set_option maxHeartbeats 4000000 in
set_option maxRecDepth 100000 in
/-- n! -/
theorem c_X_arrangements (l : Launch) (D : va_G) (q : wz_Q) (n : Nat) (hn : n ≤ 8) (hn1 : 1 ≤ n) : wz_Mi l y_X_arrangements ws_X_arrangements ({ frames := 0, cells := 0, slots := 0, locals := 0 } : Room) D q ([.int (nI n)] : List Value) [] (po_X_arrangements q n) 0 0 := by
  intro sz9
  refine wz_enter (cc := b_X_arrangements) (maxL := 3) (ret := (some .int)) (Qc := fun A => (va_Qi (po_X_arrangements q n) (wz_At D q A) A)) (by decide) (Nat.le_of_ble_eq_true rfl) ?_
  intro p e s m below meth c A ls C hP hD hS hl
  obtain ⟨hx, hb, hr, hml, hlocks, hown, hts, hN, hK, hA, hnm⟩ := C
  have hown : s.vm.findClass "TwoEndSearch" = some m.cls := hown
  have hl : lv_has ls 3 [(0, .int (nI n))] := hl
  refine lv_iconst (v := nI 1) hx hb d_X_arrangements_0 (by decide) ?_
  refine lv_istore_n (lv' := [(1, .int (nI 1)), (0, .int (nI n))]) hx hb d_X_arrangements_1 rfl hl (by decide) rfl (fun ls hl => ?_)
  refine lv_iconst (v := nI 2) hx hb d_X_arrangements_2 (by decide) ?_
  refine lv_istore_n (lv' := [(2, .int (nI 2)), (1, .int (nI 1)), (0, .int (nI n))]) hx hb d_X_arrangements_3 rfl hl (by decide) rfl (fun ls hl => ?_)
  have loop : ∀ (d : Nat) (i : Nat), i ≤ n → n + 1 ≤ i + d → ∀ (H : Heap) (locs : List Loc) (ls : Array Slot), va_P D vwCl ([] : wz_G).flatten H → va_D A ([] : wz_G).flatten → va_S A s.heap H locs → lv_has ls 3 [(0, .int (nI n)), (1, .int (nI (pz_fact i))), (2, .int (nI (i + 1)))] → W p l e ({ frames := 0, cells := 0, slots := 0, locals := 0 } : Room) s m ([.int (nI n)] : List Value).toArray below meth c H locs 0 0 (MQ below (va_Qi (po_X_arrangements q n) (wz_At D q A) A) ([.int (nI n)] : List Value).toArray s 0 0 A) (F0 m 4 ls []) := by
    intro d
    induction d with
    | zero =>
      intro i hi hd
      omega
    | succ d ih =>
      intro i hi hd H locs ls hP hD hS hl
      refine lv_iload_n hx hb d_X_arrangements_4 rfl (lv_at hl 2 rfl) ?_
      refine lv_iload_n hx hb d_X_arrangements_5 rfl (lv_at hl 0 rfl) ?_
      refine wz_gt (tgt := 19) hx hb d_X_arrangements_6 (by decide) (by omega) (by omega) (fun hc => ?_) (fun hc => ?_)
      · skip
        have hin : i = n := by omega
        subst hin
        refine lv_iload_n hx hb d_X_arrangements_19 rfl (lv_at hl 1 rfl) ?_
        exact wz_iret hx hb hr hlocks hK hP hD hS d_X_arrangements_20 ⟨rfl, rfl⟩
      · skip
        refine lv_iload_n hx hb d_X_arrangements_9 rfl (lv_at hl 1 rfl) ?_
        refine lv_iload_n hx hb d_X_arrangements_10 rfl (lv_at hl 2 rfl) ?_
        refine lv_imul hx hb d_X_arrangements_11 ?_
        refine wz_topi (y := nI (pz_fact (i + 1))) ((pk_mul _ _).trans (congrArg nI (Nat.mul_comm _ _))) ?_
        refine lv_istore_n (lv' := [(1, .int (nI (pz_fact (i + 1)))), (0, .int (nI n)), (2, .int (nI (i + 1)))]) hx hb d_X_arrangements_12 rfl hl (by decide) rfl (fun ls hl => ?_)
        refine lv_iinc (v := nI ((i + 1) + 1)) (lv' := [(2, .int (nI ((i + 1) + 1))), (1, .int (nI (pz_fact (i + 1)))), (0, .int (nI n))]) hx hb d_X_arrangements_13 hl (k := 2) rfl (nI_1 (i + 1)) (by decide) rfl (fun ls hl => ?_)
        refine lv_goto (tgt := 4) hx hb d_X_arrangements_16 (by decide) ?_
        exact ih (i + 1) (by omega) (by omega) _ _ _ hP hD hS (lv_sub hl [2, 1, 0] rfl)
  exact loop (n + 1) 1 (by omega) (by omega) _ _ _ hP hD hS (lv_sub hl [2, 1, 0] rfl)
def po_M_init (q : wz_Q) (o n : Nat) : wz_G → Prop := fun w => ∃ (a r : Nat → Nat) (f : Nat → Int32) (M : Nat → Nat → Int32), a 0 = o ∧ w = [mv_W q a n 0 r f, wz_rows 12 r (fun i9 => .inl (q.1, 8, .inl (M i9)))]
set_option maxHeartbeats 4000000 in
set_option maxRecDepth 100000 in
/-- no moves -/
theorem c_M_init (l : Launch) (D : va_G) (q : wz_Q) (o n : Nat)  : wz_Mv l y_M_init ws_M_init ({ frames := 1, cells := 14, slots := 114, locals := 12 } : Room) D q ([.ref o, .int (nI n)] : List Value) [[(o, .inr (0, [.int (nI 0), .null, .null, .int (nI 0)]))]] (po_M_init q o n) 14 114 := by
  intro sz9
  refine wz_enter (cc := b_M_init) (maxL := 2) (ret := none) (Qc := fun A => (va_Qv (po_M_init q o n) (wz_At D q A) A)) (by decide) (Nat.le_of_ble_eq_true rfl) ?_
  intro p e s m below meth c A ls C hP hD hS hl
  obtain ⟨hx, hb, hr, hml, hlocks, hown, hts, hN, hK, hA, hnm⟩ := C
  have hown : s.vm.findClass "TwoEndSearch$Moves" = some m.cls := hown
  have hl : lv_has ls 2 [(0, .ref o), (1, .int (nI n))] := hl
  have hinit : meth.name = "<init>" := hnm
  refine lv_aload_n hx hb d_M_init_0 rfl (lv_at hl 0 rfl) ?_
  refine W.objInit hx hb hown (hts _ kw_57) (hts _ kw_44) (hts _ kw_45) rfl (by rw [hml]; exact hl.1) rfl d_M_init_1 (Nat.le_of_ble_eq_true rfl) (Nat.le_of_ble_eq_true rfl) ?_
  refine W.eq (g2 := F0 m 4 ls []) rfl ?_
  refine lv_aload_n hx hb d_M_init_4 rfl (lv_at hl 0 rfl) ?_
  refine lv_bipush (v := nI 12) hx hb d_M_init_5 (by decide) ?_
  refine lv_bipush (v := nI 8) hx hb d_M_init_7 (by decide) ?_
  refine wz_mna (n := 12) (k := 8) hx hb hown (hts _ kw_58) hN (hts _ kw_76) hK hP hD hS hA (by decide) (by decide) (Nat.le_of_ble_eq_true rfl) (Nat.le_of_ble_eq_true rfl) d_M_init_9 (fun r_9 rr_9 H hP hD hS => ?_)
  have hP : va_P D vwCl ([[(o, .inr (0, [.int (nI 0), .null, .null, .int (nI 0)]))], [(r_9, .inl (q.2.2, wz_out 12 rr_9))], wz_rows 12 rr_9 (fun i9 => .inl (q.1, 8, .inl ((fun _ _ => 0) i9)))] : wz_G).flatten H := hP
  have hD : va_D A ([[(o, .inr (0, [.int (nI 0), .null, .null, .int (nI 0)]))], [(r_9, .inl (q.2.2, wz_out 12 rr_9))], wz_rows 12 rr_9 (fun i9 => .inl (q.1, 8, .inl ((fun _ _ => 0) i9)))] : wz_G).flatten := hD
  refine wz_putF (gs' := [[(o, .inr (0, [.int (nI 0), .ref r_9, .null, .int (nI 0)]))], [(r_9, .inl (q.2.2, wz_out 12 rr_9))], wz_rows 12 rr_9 (fun i9 => .inl (q.1, 8, .inl ((fun _ _ => 0) i9)))]) (v := .ref r_9) (T := T_M) (N := 4) hx hb hts i_M t_M t_M_ok n_M hown hK hP hD hS 0 0 rfl rfl rfl 1 (by decide) (hts _ kw_61) rfl rfl hinit rfl (ty := t_M 1) (by decide +kernel) rfl rfl (Nat.le_of_ble_eq_true rfl) d_M_init_13 rfl (fun H locs hP hD hS => ?_)
  refine lv_aload_n hx hb d_M_init_16 rfl (lv_at hl 0 rfl) ?_
  refine lv_bipush (v := nI 6) hx hb d_M_init_17 (by decide) ?_
  refine wz_newi (n := 6) hx hb (hts _ kw_76) hK hP hD hS hA (by decide) (Nat.le_of_ble_eq_true rfl) (Nat.le_of_ble_eq_true rfl) d_M_init_19 (fun r_19 H hP hD hS => ?_)
  have hP : va_P D vwCl ([[(o, .inr (0, [.int (nI 0), .ref r_9, .null, .int (nI 0)]))], [(r_9, .inl (q.2.2, wz_out 12 rr_9))], wz_rows 12 rr_9 (fun i9 => .inl (q.1, 8, .inl ((fun _ _ => 0) i9))), [(r_19, .inl (q.1, 6, .inl (fun _ => 0)))]] : wz_G).flatten H := hP
  have hD : va_D A ([[(o, .inr (0, [.int (nI 0), .ref r_9, .null, .int (nI 0)]))], [(r_9, .inl (q.2.2, wz_out 12 rr_9))], wz_rows 12 rr_9 (fun i9 => .inl (q.1, 8, .inl ((fun _ _ => 0) i9))), [(r_19, .inl (q.1, 6, .inl (fun _ => 0)))]] : wz_G).flatten := hD
  refine wz_putF (gs' := [[(o, .inr (0, [.int (nI 0), .ref r_9, .ref r_19, .int (nI 0)]))], [(r_9, .inl (q.2.2, wz_out 12 rr_9))], wz_rows 12 rr_9 (fun i9 => .inl (q.1, 8, .inl ((fun _ _ => 0) i9))), [(r_19, .inl (q.1, 6, .inl (fun _ => 0)))]]) (v := .ref r_19) (T := T_M) (N := 4) hx hb hts i_M t_M t_M_ok n_M hown hK hP hD hS 0 0 rfl rfl rfl 2 (by decide) (hts _ kw_62) rfl rfl hinit rfl (ty := t_M 2) (by decide +kernel) rfl rfl (Nat.le_of_ble_eq_true rfl) d_M_init_21 rfl (fun H locs hP hD hS => ?_)
  refine lv_aload_n hx hb d_M_init_24 rfl (lv_at hl 0 rfl) ?_
  refine lv_iload_n hx hb d_M_init_25 rfl (lv_at hl 1 rfl) ?_
  refine wz_putF (gs' := [[(o, .inr (0, [.int (nI n), .ref r_9, .ref r_19, .int (nI 0)]))], [(r_9, .inl (q.2.2, wz_out 12 rr_9))], wz_rows 12 rr_9 (fun i9 => .inl (q.1, 8, .inl ((fun _ _ => 0) i9))), [(r_19, .inl (q.1, 6, .inl (fun _ => 0)))]]) (v := .int (nI n)) (T := T_M) (N := 4) hx hb hts i_M t_M t_M_ok n_M hown hK hP hD hS 0 0 rfl rfl rfl 0 (by decide) (hts _ kw_60) rfl rfl hinit rfl (ty := t_M 0) (by decide +kernel) rfl rfl (Nat.le_of_ble_eq_true rfl) d_M_init_26 rfl (fun H locs hP hD hS => ?_)
  obtain ⟨a, h_0, h_1, h_2⟩ : ∃ a : Nat → Nat, a 0 = o ∧ a 1 = r_9 ∧ a 2 = r_19 := ⟨fun i => ([o, r_9, r_19] : List Nat).getD i 0, rfl, rfl, rfl⟩
  subst h_0
  subst h_1
  subst h_2
  obtain ⟨hP, hD⟩ := wz_ord (n := 4) (gs' := [[(a 0, .inr (0, [.int (nI n), .ref (a 1), .ref (a 2), .int (nI 0)]))], [(a 1, .inl (q.2.2, wz_out 12 rr_9))], [(a 2, .inl (q.1, 6, .inl (fun _ => 0)))], wz_rows 12 rr_9 (fun i9 => .inl (q.1, 8, .inl ((fun _ _ => 0) i9)))]) [0, 1, 3, 2] rfl (by decide) rfl hP hD
  have hP : va_P D vwCl ([mv_W q a n 0 rr_9 (fun _ => 0), wz_rows 12 rr_9 (fun i9 => .inl (q.1, 8, .inl ((fun _ _ => 0) i9)))] : wz_G).flatten H := hP
  have hD : va_D A ([mv_W q a n 0 rr_9 (fun _ => 0), wz_rows 12 rr_9 (fun i9 => .inl (q.1, 8, .inl ((fun _ _ => 0) i9)))] : wz_G).flatten := hD
  exact wz_vret hx hb hr hlocks hK hP hD hS d_M_init_29 ⟨a, rr_9, _, _, rfl, rfl⟩
def po_G_init (q : wz_Q) (o cap mr : Nat) : wz_G → Prop := fun w => ∃ (a rl : Nat → Nat) (st sl : Nat → Int32) (L : Nat → Nat → Int32) (b : Nat), a 0 = o ∧ 0 < b ∧ b ≤ 30 ∧ cap < 2 ^ b ∧ (∀ j, sl j = 0) ∧ w = [gq_W q a mr cap (2 ^ b) (32 - b) rl st sl 0, wz_rows 12 rl (fun i9 => .inl (q.1, cap, .inl (L i9)))]
set_option maxHeartbeats 4000000 in
set_option maxRecDepth 100000 in
/-- no states -/
theorem c_G_init (l : Launch) (D : va_G) (q : wz_Q) (o cap mr : Nat) (hcap : cap ≤ 40320) (hc1 : 1 ≤ cap) : wz_Mv l y_G_init ws_G_init ({ frames := 1, cells := 15, slots := 589708, locals := 12 } : Room) D q ([.ref o, .int (nI cap), .ref mr] : List Value) [[(o, .inr (1, [.null, .null, .null, .int (nI 0), .null, .int (nI 0)]))]] (po_G_init q o cap mr) 15 589708 := by
  intro sz9
  refine wz_enter (cc := b_G_init) (maxL := 4) (ret := none) (Qc := fun A => (va_Qv (po_G_init q o cap mr) (wz_At D q A) A)) (by decide) (Nat.le_of_ble_eq_true rfl) ?_
  intro p e s m below meth c A ls C hP hD hS hl
  obtain ⟨hx, hb, hr, hml, hlocks, hown, hts, hN, hK, hA, hnm⟩ := C
  have hown : s.vm.findClass "TwoEndSearch$Graph" = some m.cls := hown
  have hl : lv_has ls 4 [(0, .ref o), (1, .int (nI cap)), (2, .ref mr)] := hl
  have hinit : meth.name = "<init>" := hnm
  refine lv_aload_n hx hb d_G_init_0 rfl (lv_at hl 0 rfl) ?_
  refine W.objInit hx hb hown (hts _ kw_94) (hts _ kw_44) (hts _ kw_45) rfl (by rw [hml]; exact hl.1) rfl d_G_init_1 (Nat.le_of_ble_eq_true rfl) (Nat.le_of_ble_eq_true rfl) ?_
  refine W.eq (g2 := F0 m 4 ls []) rfl ?_
  refine lv_aload_n hx hb d_G_init_4 rfl (lv_at hl 0 rfl) ?_
  refine lv_aload_n hx hb d_G_init_5 rfl (lv_at hl 2 rfl) ?_
  refine wz_putF (gs' := [[(o, .inr (1, [.ref mr, .null, .null, .int (nI 0), .null, .int (nI 0)]))]]) (v := .ref mr) (T := T_G) (N := 6) hx hb hts i_G t_G t_G_ok n_G hown hK hP hD hS 0 0 rfl rfl rfl 0 (by decide) (hts _ kw_96) rfl rfl hinit rfl (ty := t_G 0) (by decide +kernel) rfl rfl (Nat.le_of_ble_eq_true rfl) d_G_init_6 rfl (fun H locs hP hD hS => ?_)
  refine lv_aload_n hx hb d_G_init_9 rfl (lv_at hl 0 rfl) ?_
  refine lv_iload_n hx hb d_G_init_10 rfl (lv_at hl 1 rfl) ?_
  refine wz_newi (n := cap) hx hb (hts _ kw_76) hK hP hD hS hA (by omega) (Nat.le_of_ble_eq_true rfl) (by show _ ≤ 589708; omega) d_G_init_11 (fun r_11 H hP hD hS => ?_)
  have hP : va_P D vwCl ([[(o, .inr (1, [.ref mr, .null, .null, .int (nI 0), .null, .int (nI 0)]))], [(r_11, .inl (q.1, cap, .inl (fun _ => 0)))]] : wz_G).flatten H := hP
  have hD : va_D A ([[(o, .inr (1, [.ref mr, .null, .null, .int (nI 0), .null, .int (nI 0)]))], [(r_11, .inl (q.1, cap, .inl (fun _ => 0)))]] : wz_G).flatten := hD
  refine wz_putF (gs' := [[(o, .inr (1, [.ref mr, .ref r_11, .null, .int (nI 0), .null, .int (nI 0)]))], [(r_11, .inl (q.1, cap, .inl (fun _ => 0)))]]) (v := .ref r_11) (T := T_G) (N := 6) hx hb hts i_G t_G t_G_ok n_G hown hK hP hD hS 0 0 rfl rfl rfl 1 (by decide) (hts _ kw_98) rfl rfl hinit rfl (ty := t_G 1) (by decide +kernel) rfl rfl (Nat.le_of_ble_eq_true rfl) d_G_init_13 rfl (fun H locs hP hD hS => ?_)
  refine lv_aload_n hx hb d_G_init_16 rfl (lv_at hl 0 rfl) ?_
  refine lv_bipush (v := nI 12) hx hb d_G_init_17 (by decide) ?_
  refine lv_iload_n hx hb d_G_init_19 rfl (lv_at hl 1 rfl) ?_
  refine wz_mna (n := 12) (k := cap) hx hb hown (hts _ kw_95) hN (hts _ kw_76) hK hP hD hS hA (by decide) (by omega) (Nat.le_of_ble_eq_true rfl) (by show _ ≤ 589708; omega) d_G_init_20 (fun r_20 rr_20 H hP hD hS => ?_)
  have hP : va_P D vwCl ([[(o, .inr (1, [.ref mr, .ref r_11, .null, .int (nI 0), .null, .int (nI 0)]))], [(r_11, .inl (q.1, cap, .inl (fun _ => 0)))], [(r_20, .inl (q.2.2, wz_out 12 rr_20))], wz_rows 12 rr_20 (fun i9 => .inl (q.1, cap, .inl ((fun _ _ => 0) i9)))] : wz_G).flatten H := hP
  have hD : va_D A ([[(o, .inr (1, [.ref mr, .ref r_11, .null, .int (nI 0), .null, .int (nI 0)]))], [(r_11, .inl (q.1, cap, .inl (fun _ => 0)))], [(r_20, .inl (q.2.2, wz_out 12 rr_20))], wz_rows 12 rr_20 (fun i9 => .inl (q.1, cap, .inl ((fun _ _ => 0) i9)))] : wz_G).flatten := hD
  refine wz_putF (gs' := [[(o, .inr (1, [.ref mr, .ref r_11, .null, .int (nI 0), .ref r_20, .int (nI 0)]))], [(r_11, .inl (q.1, cap, .inl (fun _ => 0)))], [(r_20, .inl (q.2.2, wz_out 12 rr_20))], wz_rows 12 rr_20 (fun i9 => .inl (q.1, cap, .inl ((fun _ _ => 0) i9)))]) (v := .ref r_20) (T := T_G) (N := 6) hx hb hts i_G t_G t_G_ok n_G hown hK hP hD hS 0 0 rfl rfl rfl 4 (by decide) (hts _ kw_101) rfl rfl hinit rfl (ty := t_G 4) (by decide +kernel) rfl rfl (Nat.le_of_ble_eq_true rfl) d_G_init_24 rfl (fun H locs hP hD hS => ?_)
  refine lv_iconst (v := nI 1) hx hb d_G_init_27 (by decide) ?_
  refine lv_istore_n (lv' := [(3, .int (nI 1)), (0, .ref o), (1, .int (nI cap)), (2, .ref mr)]) hx hb d_G_init_28 rfl hl (by decide) rfl (fun ls hl => ?_)
  have loop : ∀ (d : Nat) (b : Nat), 1 ≤ b → b ≤ 16 → 17 ≤ b + d → (b = 1 ∨ 2 ^ (b - 1) < cap + cap / 2) → ∀ (H : Heap) (locs : List Loc) (ls : Array Slot), va_P D vwCl ([[(o, .inr (1, [.ref mr, .ref r_11, .null, .int (nI 0), .ref r_20, .int (nI 0)]))], [(r_11, .inl (q.1, cap, .inl (fun _ => 0)))], [(r_20, .inl (q.2.2, wz_out 12 rr_20))], wz_rows 12 rr_20 (fun i9 => .inl (q.1, cap, .inl ((fun _ _ => 0) i9)))] : wz_G).flatten H → va_D A ([[(o, .inr (1, [.ref mr, .ref r_11, .null, .int (nI 0), .ref r_20, .int (nI 0)]))], [(r_11, .inl (q.1, cap, .inl (fun _ => 0)))], [(r_20, .inl (q.2.2, wz_out 12 rr_20))], wz_rows 12 rr_20 (fun i9 => .inl (q.1, cap, .inl ((fun _ _ => 0) i9)))] : wz_G).flatten → va_S A s.heap H locs → lv_has ls 4 [(0, .ref o), (1, .int (nI cap)), (2, .ref mr), (3, .int (nI b))] → W p l e ({ frames := 1, cells := 15, slots := 589708, locals := 12 } : Room) s m ([.ref o, .int (nI cap), .ref mr] : List Value).toArray below meth c H locs (0 + 1 + 1 + 12) (0 + cap + 12 + 12 * cap) (MQ below (va_Qv (po_G_init q o cap mr) (wz_At D q A) A) ([.ref o, .int (nI cap), .ref mr] : List Value).toArray s 15 589708 A) (F0 m 29 ls []) := by
    intro d
    induction d with
    | zero =>
      intro b hb1 hb16 hd hlow
      omega
    | succ d ih =>
      intro b hb1 hb16 hd hlow H locs ls hP hD hS hl
      have hfin : cap < 2 ^ b → ∀ (H : Heap) (locs : List Loc) (ls : Array Slot), va_P D vwCl ([[(o, .inr (1, [.ref mr, .ref r_11, .null, .int (nI 0), .ref r_20, .int (nI 0)]))], [(r_11, .inl (q.1, cap, .inl (fun _ => 0)))], [(r_20, .inl (q.2.2, wz_out 12 rr_20))], wz_rows 12 rr_20 (fun i9 => .inl (q.1, cap, .inl ((fun _ _ => 0) i9)))] : wz_G).flatten H → va_D A ([[(o, .inr (1, [.ref mr, .ref r_11, .null, .int (nI 0), .ref r_20, .int (nI 0)]))], [(r_11, .inl (q.1, cap, .inl (fun _ => 0)))], [(r_20, .inl (q.2.2, wz_out 12 rr_20))], wz_rows 12 rr_20 (fun i9 => .inl (q.1, cap, .inl ((fun _ _ => 0) i9)))] : wz_G).flatten → va_S A s.heap H locs → lv_has ls 4 [(0, .ref o), (1, .int (nI cap)), (2, .ref mr), (3, .int (nI b))] → W p l e ({ frames := 1, cells := 15, slots := 589708, locals := 12 } : Room) s m ([.ref o, .int (nI cap), .ref mr] : List Value).toArray below meth c H locs (0 + 1 + 1 + 12) (0 + cap + 12 + 12 * cap) (MQ below (va_Qv (po_G_init q o cap mr) (wz_At D q A) A) ([.ref o, .int (nI cap), .ref mr] : List Value).toArray s 15 589708 A) (F0 m 52 ls []) := by
        intro hcb H locs ls hP hD hS hl
        have h16 : 2 ^ b ≤ 2 ^ 16 := Nat.pow_le_pow_right (by decide) hb16
        refine lv_aload_n hx hb d_G_init_52 rfl (lv_at hl 0 rfl) ?_
        refine lv_iconst (v := nI 1) hx hb d_G_init_53 (by decide) ?_
        refine lv_iload_n hx hb d_G_init_54 rfl (lv_at hl 3 rfl) ?_
        refine lv_ishl hx hb d_G_init_55 ?_
        refine wz_topi (y := nI (2 ^ b)) (gq_sl b (by omega)) ?_
        refine wz_newi (n := (2 ^ b)) hx hb (hts _ kw_76) hK hP hD hS hA (by omega) (Nat.le_of_ble_eq_true rfl) (by show _ ≤ 589708; omega) d_G_init_56 (fun r_56 H hP hD hS => ?_)
        have hP : va_P D vwCl ([[(o, .inr (1, [.ref mr, .ref r_11, .null, .int (nI 0), .ref r_20, .int (nI 0)]))], [(r_11, .inl (q.1, cap, .inl (fun _ => 0)))], [(r_20, .inl (q.2.2, wz_out 12 rr_20))], wz_rows 12 rr_20 (fun i9 => .inl (q.1, cap, .inl ((fun _ _ => 0) i9))), [(r_56, .inl (q.1, (2 ^ b), .inl (fun _ => 0)))]] : wz_G).flatten H := hP
        have hD : va_D A ([[(o, .inr (1, [.ref mr, .ref r_11, .null, .int (nI 0), .ref r_20, .int (nI 0)]))], [(r_11, .inl (q.1, cap, .inl (fun _ => 0)))], [(r_20, .inl (q.2.2, wz_out 12 rr_20))], wz_rows 12 rr_20 (fun i9 => .inl (q.1, cap, .inl ((fun _ _ => 0) i9))), [(r_56, .inl (q.1, (2 ^ b), .inl (fun _ => 0)))]] : wz_G).flatten := hD
        refine wz_putF (gs' := [[(o, .inr (1, [.ref mr, .ref r_11, .ref r_56, .int (nI 0), .ref r_20, .int (nI 0)]))], [(r_11, .inl (q.1, cap, .inl (fun _ => 0)))], [(r_20, .inl (q.2.2, wz_out 12 rr_20))], wz_rows 12 rr_20 (fun i9 => .inl (q.1, cap, .inl ((fun _ _ => 0) i9))), [(r_56, .inl (q.1, (2 ^ b), .inl (fun _ => 0)))]]) (v := .ref r_56) (T := T_G) (N := 6) hx hb hts i_G t_G t_G_ok n_G hown hK hP hD hS 0 0 rfl rfl rfl 2 (by decide) (hts _ kw_99) rfl rfl hinit rfl (ty := t_G 2) (by decide +kernel) rfl rfl (Nat.le_of_ble_eq_true rfl) d_G_init_58 rfl (fun H locs hP hD hS => ?_)
        refine lv_aload_n hx hb d_G_init_61 rfl (lv_at hl 0 rfl) ?_
        refine lv_bipush (v := nI 32) hx hb d_G_init_62 (by decide) ?_
        refine lv_iload_n hx hb d_G_init_64 rfl (lv_at hl 3 rfl) ?_
        refine lv_isub hx hb d_G_init_65 ?_
        refine wz_topi (y := nI (32 - b)) (pk_sub (by omega)) ?_
        refine wz_putF (gs' := [[(o, .inr (1, [.ref mr, .ref r_11, .ref r_56, .int (nI (32 - b)), .ref r_20, .int (nI 0)]))], [(r_11, .inl (q.1, cap, .inl (fun _ => 0)))], [(r_20, .inl (q.2.2, wz_out 12 rr_20))], wz_rows 12 rr_20 (fun i9 => .inl (q.1, cap, .inl ((fun _ _ => 0) i9))), [(r_56, .inl (q.1, (2 ^ b), .inl (fun _ => 0)))]]) (v := .int (nI (32 - b))) (T := T_G) (N := 6) hx hb hts i_G t_G t_G_ok n_G hown hK hP hD hS 0 0 rfl rfl rfl 3 (by decide) (hts _ kw_100) rfl rfl hinit rfl (ty := t_G 3) (by decide +kernel) rfl rfl (Nat.le_of_ble_eq_true rfl) d_G_init_66 rfl (fun H locs hP hD hS => ?_)
        obtain ⟨a, h_0, h_1, h_2, h_3⟩ : ∃ a : Nat → Nat, a 0 = o ∧ a 1 = r_11 ∧ a 2 = r_56 ∧ a 3 = r_20 := ⟨fun i => ([o, r_11, r_56, r_20] : List Nat).getD i 0, rfl, rfl, rfl, rfl⟩
        subst h_0
        subst h_1
        subst h_2
        subst h_3
        obtain ⟨hP, hD⟩ := wz_ord (n := 5) (gs' := [[(a 0, .inr (1, [.ref mr, .ref (a 1), .ref (a 2), .int (nI (32 - b)), .ref (a 3), .int (nI 0)]))], [(a 1, .inl (q.1, cap, .inl (fun _ => 0)))], [(a 2, .inl (q.1, (2 ^ b), .inl (fun _ => 0)))], [(a 3, .inl (q.2.2, wz_out 12 rr_20))], wz_rows 12 rr_20 (fun i9 => .inl (q.1, cap, .inl ((fun _ _ => 0) i9)))]) [0, 1, 4, 2, 3] rfl (by decide) rfl hP hD
        have hP : va_P D vwCl ([gq_W q a mr cap (2 ^ b) (32 - b) rr_20 (fun _ => 0) (fun _ => 0) 0, wz_rows 12 rr_20 (fun i9 => .inl (q.1, cap, .inl ((fun _ _ => 0) i9)))] : wz_G).flatten H := hP
        have hD : va_D A ([gq_W q a mr cap (2 ^ b) (32 - b) rr_20 (fun _ => 0) (fun _ => 0) 0, wz_rows 12 rr_20 (fun i9 => .inl (q.1, cap, .inl ((fun _ _ => 0) i9)))] : wz_G).flatten := hD
        refine W.widen (k := 15) (n := 589708) (Nat.le_of_ble_eq_true rfl) (by omega) ?_
        exact wz_vret hx hb hr hlocks hK hP hD hS d_G_init_69 ⟨a, rr_20, _, _, _, b, rfl, by omega, by omega, hcb, fun _ => rfl, rfl⟩
      have hp2 : 2 ^ b ≤ 2 ^ 16 := Nat.pow_le_pow_right (by decide) hb16
      have hp1 : 2 ≤ 2 ^ b := Nat.le_trans (by decide) (Nat.pow_le_pow_right (n := 2) (by decide) hb1)
      refine lv_iload_n hx hb d_G_init_29 rfl (lv_at hl 3 rfl) ?_
      refine lv_bipush (v := nI 30) hx hb d_G_init_30 (by decide) ?_
      refine wz_ge (tgt := 52) hx hb d_G_init_32 (by decide) (by omega) (by omega) (fun hc => ?_) (fun hc => ?_)
      · skip
        exfalso; omega
      · skip
        refine lv_iconst (v := nI 1) hx hb d_G_init_35 (by decide) ?_
        refine lv_iload_n hx hb d_G_init_36 rfl (lv_at hl 3 rfl) ?_
        refine lv_ishl hx hb d_G_init_37 ?_
        refine wz_topi (y := nI (2 ^ b)) (gq_sl b (by omega)) ?_
        refine lv_iload_n hx hb d_G_init_38 rfl (lv_at hl 1 rfl) ?_
        refine lv_iload_n hx hb d_G_init_39 rfl (lv_at hl 1 rfl) ?_
        refine lv_iconst (v := nI 2) hx hb d_G_init_40 (by decide) ?_
        refine lv_idiv hx hb d_G_init_41 (by decide) ?_
        refine wz_topi (y := nI (cap / 2)) (pk_div (by omega) (by decide) (by decide)) ?_
        refine lv_iadd hx hb d_G_init_42 ?_
        refine wz_topi (y := nI (cap + (cap / 2))) (nI_add cap (cap / 2)) ?_
        refine wz_ge (tgt := 52) hx hb d_G_init_43 (by decide) (by omega) (by omega) (fun hc2 => ?_) (fun hc2 => ?_)
        · skip
          exact hfin (by omega) _ _ _ hP hD hS (lv_sub hl [0, 1, 2, 3] rfl)
        · skip
          have hb15 : b ≤ 15 := by
            by_cases e0 : b = 16
            · subst e0; have : 2 ^ 16 < cap + cap / 2 := hc2; omega
            · omega
          refine lv_iinc (v := nI (b + 1)) (lv' := [(3, .int (nI (b + 1))), (0, .ref o), (1, .int (nI cap)), (2, .ref mr)]) hx hb d_G_init_46 hl (k := 3) rfl (nI_1 b) (by decide) rfl (fun ls hl => ?_)
          refine lv_goto (tgt := 29) hx hb d_G_init_49 (by decide) ?_
          exact ih (b + 1) (by omega) (by omega) (by omega) (Or.inr hc2) _ _ _ hP hD hS (lv_sub hl [1, 2, 3, 0] rfl)
  exact loop 16 1 (by omega) (by omega) (by omega) (Or.inl rfl) _ _ _ hP hD hS (lv_sub hl [1, 2, 3, 0] rfl)
def po_B_init0 (q : wz_Q) (o cap : Nat) (ag : Nat → Nat) (mr sb9 hs9 : Nat) (rl : Nat → Nat) (st sl : Nat → Int32) (cn9 : Nat) : wz_G → Prop := fun w => ∃ (ab : Nat → Nat) (fa : Nat → Int32) (wy : Nat → Int64) (re : Nat → Int32), ab 0 = o ∧ (∀ i, i < cap → fa i = -1) ∧ w = [bl_W q ab mr (ag 0) 0 cap fa wy re 0 0 0 (nI 0) (nI 0), gq_W q ag mr cap sb9 hs9 rl st sl cn9]
set_option maxHeartbeats 4000000 in
set_option maxRecDepth 100000 in
/-- nothing reached -/
theorem c_B_init0 (l : Launch) (D : va_G) (q : wz_Q) (o cap : Nat) (ag : Nat → Nat) (mr sb9 hs9 : Nat) (rl : Nat → Nat) (st sl : Nat → Int32) (cn9 : Nat) (hcap : cap ≤ 40320) : wz_Mv l y_B_init ws_B_init ({ frames := 1, cells := 3, slots := 120960, locals := 23 } : Room) D q ([.ref o, .int (nI cap), .ref (ag 0), .int (nI 0)] : List Value) [[(o, .inr (2, [.null, .null, .int (nI 0), .null, .null, .null, .int (nI 0), .int (nI 0), .int (nI 0), .int (nI 0), .int (nI 0)]))], gq_W q ag mr cap sb9 hs9 rl st sl cn9] (po_B_init0 q o cap ag mr sb9 hs9 rl st sl cn9) 3 120960 := by
  intro sz9
  refine wz_enter (cc := b_B_init) (maxL := 4) (ret := none) (Qc := fun A => (va_Qv (po_B_init0 q o cap ag mr sb9 hs9 rl st sl cn9) (wz_At D q A) A)) (by decide) (Nat.le_of_ble_eq_true rfl) ?_
  intro p e s m below meth c A ls C hP hD hS hl
  obtain ⟨hx, hb, hr, hml, hlocks, hown, hts, hN, hK, hA, hnm⟩ := C
  have hown : s.vm.findClass "TwoEndSearch$Ball" = some m.cls := hown
  have hl : lv_has ls 4 [(0, .ref o), (1, .int (nI cap)), (2, .ref (ag 0)), (3, .int (nI 0))] := hl
  have hinit : meth.name = "<init>" := hnm
  refine lv_aload_n hx hb d_B_init_0 rfl (lv_at hl 0 rfl) ?_
  refine W.objInit hx hb hown (hts _ kw_121) (hts _ kw_44) (hts _ kw_45) rfl (by rw [hml]; exact hl.1) rfl d_B_init_1 (Nat.le_of_ble_eq_true rfl) (Nat.le_of_ble_eq_true rfl) ?_
  refine W.eq (g2 := F0 m 4 ls []) rfl ?_
  refine lv_aload_n hx hb d_B_init_4 rfl (lv_at hl 0 rfl) ?_
  refine lv_aload_n hx hb d_B_init_5 rfl (lv_at hl 2 rfl) ?_
  refine wz_putF (gs' := [[(o, .inr (2, [.null, .ref (ag 0), .int (nI 0), .null, .null, .null, .int (nI 0), .int (nI 0), .int (nI 0), .int (nI 0), .int (nI 0)]))], gq_W q ag mr cap sb9 hs9 rl st sl cn9]) (v := .ref (ag 0)) (T := T_B) (N := 11) hx hb hts i_B t_B t_B_ok n_B hown hK hP hD hS 0 0 rfl rfl rfl 1 (by decide) (hts _ kw_126) rfl rfl hinit rfl (ty := t_B 1) (by decide +kernel) rfl rfl (Nat.le_of_ble_eq_true rfl) d_B_init_6 rfl (fun H locs hP hD hS => ?_)
  refine lv_aload_n hx hb d_B_init_9 rfl (lv_at hl 0 rfl) ?_
  refine lv_aload_n hx hb d_B_init_10 rfl (lv_at hl 2 rfl) ?_
  refine wz_getN (v := .ref mr) (T := T_G) (N := 6) hx hb hts i_G hown hK hP 1 0 rfl rfl rfl 0 (by decide) (hN.1 _ (List.mem_of_getElem? (i := 4) rfl)) rfl rfl d_B_init_11 ?_
  refine wz_putF (gs' := [[(o, .inr (2, [.ref mr, .ref (ag 0), .int (nI 0), .null, .null, .null, .int (nI 0), .int (nI 0), .int (nI 0), .int (nI 0), .int (nI 0)]))], gq_W q ag mr cap sb9 hs9 rl st sl cn9]) (v := .ref mr) (T := T_B) (N := 11) hx hb hts i_B t_B t_B_ok n_B hown hK hP hD hS 0 0 rfl rfl rfl 0 (by decide) (hts _ kw_125) rfl rfl hinit rfl (ty := t_B 0) (by decide +kernel) rfl rfl (Nat.le_of_ble_eq_true rfl) d_B_init_14 rfl (fun H locs hP hD hS => ?_)
  refine lv_aload_n hx hb d_B_init_17 rfl (lv_at hl 0 rfl) ?_
  refine lv_iload_n hx hb d_B_init_18 rfl (lv_at hl 3 rfl) ?_
  refine lv_if_eq (tgt := 27) hx hb d_B_init_19 (by decide) (fun hc => ?_) (fun hc => ?_)
  · skip
    refine lv_iconst (v := nI 0) hx hb d_B_init_27 (by decide) ?_
    refine wz_putF (gs' := [[(o, .inr (2, [.ref mr, .ref (ag 0), .int (nI 0), .null, .null, .null, .int (nI 0), .int (nI 0), .int (nI 0), .int (nI 0), .int (nI 0)]))], gq_W q ag mr cap sb9 hs9 rl st sl cn9]) (v := .int (nI 0)) (T := T_B) (N := 11) hx hb hts i_B t_B t_B_ok n_B hown hK hP hD hS 0 0 rfl rfl rfl 2 (by decide) (hts _ kw_127) rfl rfl hinit rfl (ty := t_B 2) (by decide +kernel) rfl rfl (Nat.le_of_ble_eq_true rfl) d_B_init_28 rfl (fun H locs hP hD hS => ?_)
    refine lv_aload_n hx hb d_B_init_31 rfl (lv_at hl 0 rfl) ?_
    refine lv_iload_n hx hb d_B_init_32 rfl (lv_at hl 1 rfl) ?_
    refine wz_newi (n := cap) hx hb (hts _ kw_76) hK hP hD hS hA (by omega) (Nat.le_of_ble_eq_true rfl) (by show _ ≤ 120960; omega) d_B_init_33 (fun r_33 H hP hD hS => ?_)
    have hP : va_P D vwCl ([[(o, .inr (2, [.ref mr, .ref (ag 0), .int (nI 0), .null, .null, .null, .int (nI 0), .int (nI 0), .int (nI 0), .int (nI 0), .int (nI 0)]))], gq_W q ag mr cap sb9 hs9 rl st sl cn9, [(r_33, .inl (q.1, cap, .inl (fun _ => 0)))]] : wz_G).flatten H := hP
    have hD : va_D A ([[(o, .inr (2, [.ref mr, .ref (ag 0), .int (nI 0), .null, .null, .null, .int (nI 0), .int (nI 0), .int (nI 0), .int (nI 0), .int (nI 0)]))], gq_W q ag mr cap sb9 hs9 rl st sl cn9, [(r_33, .inl (q.1, cap, .inl (fun _ => 0)))]] : wz_G).flatten := hD
    refine wz_putF (gs' := [[(o, .inr (2, [.ref mr, .ref (ag 0), .int (nI 0), .ref r_33, .null, .null, .int (nI 0), .int (nI 0), .int (nI 0), .int (nI 0), .int (nI 0)]))], gq_W q ag mr cap sb9 hs9 rl st sl cn9, [(r_33, .inl (q.1, cap, .inl (fun _ => 0)))]]) (v := .ref r_33) (T := T_B) (N := 11) hx hb hts i_B t_B t_B_ok n_B hown hK hP hD hS 0 0 rfl rfl rfl 3 (by decide) (hts _ kw_128) rfl rfl hinit rfl (ty := t_B 3) (by decide +kernel) rfl rfl (Nat.le_of_ble_eq_true rfl) d_B_init_35 rfl (fun H locs hP hD hS => ?_)
    refine lv_aload_n hx hb d_B_init_38 rfl (lv_at hl 0 rfl) ?_
    refine wz_get (v := .ref r_33) (T := T_B) (N := 11) hx hb hts i_B hown hK hP 0 0 rfl rfl rfl 3 (by decide) (hts _ kw_128) rfl rfl d_B_init_39 ?_
    refine lv_iconst (v := (-1)) hx hb d_B_init_42 (by decide) ?_
    have hQ := wz_split (n := 3) (gc := [[(r_33, .inl (q.1, cap, .inl (fun _ => 0)))]]) (gr := [[(o, .inr (2, [.ref mr, .ref (ag 0), .int (nI 0), .ref r_33, .null, .null, .int (nI 0), .int (nI 0), .int (nI 0), .int (nI 0), .int (nI 0)]))], gq_W q ag mr cap sb9 hs9 rl st sl cn9]) [2] [0, 1] rfl (by decide) rfl rfl hP hD
    refine wz_callv (va_runS (As := [.ref r_33, .int (-1)]) (rest := []) ⟨hx, hb, hml, hown, hts⟩ (c_A_fill l D q r_33 cap (fun _ => 0) (-1) (by omega) _) (va_cwS 2 hts (wz_goodS kw_122 kw_123 kw_36 kw_124) rfl rfl rfl (by decide +kernel) ⟨Nat.le_of_ble_eq_true rfl, Nat.le_of_ble_eq_true rfl⟩) (wz_preS hN hK hQ wz_L_ok) rfl rfl hl.1 rfl (lv_room (Nat.le_of_ble_eq_true rfl)) d_B_init_43 ⟨Nat.le_of_ble_eq_true rfl, (by show _ ≤ 120960; omega)⟩) hQ hS hA (fun gx H locs hp hP hD hS => ?_)
    obtain ⟨fa, rfl, hfa⟩ := hp
    obtain ⟨hP, hD⟩ := wz_ord (n := 3) (gs' := [[(o, .inr (2, [.ref mr, .ref (ag 0), .int (nI 0), .ref r_33, .null, .null, .int (nI 0), .int (nI 0), .int (nI 0), .int (nI 0), .int (nI 0)]))], gq_W q ag mr cap sb9 hs9 rl st sl cn9, [(r_33, .inl (q.1, cap, .inl fa))]]) [1, 2, 0] rfl (by decide) rfl hP hD
    refine lv_aload_n hx hb d_B_init_46 rfl (lv_at hl 0 rfl) ?_
    refine lv_iload_n hx hb d_B_init_47 rfl (lv_at hl 1 rfl) ?_
    refine wz_newl (n := cap) hx hb (hts _ kw_168) hK hP hD hS hA (by omega) (Nat.le_of_ble_eq_true rfl) (by show _ ≤ 120960; omega) d_B_init_48 (fun r_48 H hP hD hS => ?_)
    have hP : va_P D vwCl ([[(o, .inr (2, [.ref mr, .ref (ag 0), .int (nI 0), .ref r_33, .null, .null, .int (nI 0), .int (nI 0), .int (nI 0), .int (nI 0), .int (nI 0)]))], gq_W q ag mr cap sb9 hs9 rl st sl cn9, [(r_33, .inl (q.1, cap, .inl fa))], [(r_48, .inl (q.2.1, cap, .inr (.inl (fun _ => 0))))]] : wz_G).flatten H := hP
    have hD : va_D A ([[(o, .inr (2, [.ref mr, .ref (ag 0), .int (nI 0), .ref r_33, .null, .null, .int (nI 0), .int (nI 0), .int (nI 0), .int (nI 0), .int (nI 0)]))], gq_W q ag mr cap sb9 hs9 rl st sl cn9, [(r_33, .inl (q.1, cap, .inl fa))], [(r_48, .inl (q.2.1, cap, .inr (.inl (fun _ => 0))))]] : wz_G).flatten := hD
    refine wz_putF (gs' := [[(o, .inr (2, [.ref mr, .ref (ag 0), .int (nI 0), .ref r_33, .ref r_48, .null, .int (nI 0), .int (nI 0), .int (nI 0), .int (nI 0), .int (nI 0)]))], gq_W q ag mr cap sb9 hs9 rl st sl cn9, [(r_33, .inl (q.1, cap, .inl fa))], [(r_48, .inl (q.2.1, cap, .inr (.inl (fun _ => 0))))]]) (v := .ref r_48) (T := T_B) (N := 11) hx hb hts i_B t_B t_B_ok n_B hown hK hP hD hS 0 0 rfl rfl rfl 4 (by decide) (hts _ kw_130) rfl rfl hinit rfl (ty := t_B 4) (by decide +kernel) rfl rfl (Nat.le_of_ble_eq_true rfl) d_B_init_50 rfl (fun H locs hP hD hS => ?_)
    refine lv_aload_n hx hb d_B_init_53 rfl (lv_at hl 0 rfl) ?_
    refine lv_iload_n hx hb d_B_init_54 rfl (lv_at hl 1 rfl) ?_
    refine wz_newi (n := cap) hx hb (hts _ kw_76) hK hP hD hS hA (by omega) (Nat.le_of_ble_eq_true rfl) (by show _ ≤ 120960; omega) d_B_init_55 (fun r_55 H hP hD hS => ?_)
    have hP : va_P D vwCl ([[(o, .inr (2, [.ref mr, .ref (ag 0), .int (nI 0), .ref r_33, .ref r_48, .null, .int (nI 0), .int (nI 0), .int (nI 0), .int (nI 0), .int (nI 0)]))], gq_W q ag mr cap sb9 hs9 rl st sl cn9, [(r_33, .inl (q.1, cap, .inl fa))], [(r_48, .inl (q.2.1, cap, .inr (.inl (fun _ => 0))))], [(r_55, .inl (q.1, cap, .inl (fun _ => 0)))]] : wz_G).flatten H := hP
    have hD : va_D A ([[(o, .inr (2, [.ref mr, .ref (ag 0), .int (nI 0), .ref r_33, .ref r_48, .null, .int (nI 0), .int (nI 0), .int (nI 0), .int (nI 0), .int (nI 0)]))], gq_W q ag mr cap sb9 hs9 rl st sl cn9, [(r_33, .inl (q.1, cap, .inl fa))], [(r_48, .inl (q.2.1, cap, .inr (.inl (fun _ => 0))))], [(r_55, .inl (q.1, cap, .inl (fun _ => 0)))]] : wz_G).flatten := hD
    refine wz_putF (gs' := [[(o, .inr (2, [.ref mr, .ref (ag 0), .int (nI 0), .ref r_33, .ref r_48, .ref r_55, .int (nI 0), .int (nI 0), .int (nI 0), .int (nI 0), .int (nI 0)]))], gq_W q ag mr cap sb9 hs9 rl st sl cn9, [(r_33, .inl (q.1, cap, .inl fa))], [(r_48, .inl (q.2.1, cap, .inr (.inl (fun _ => 0))))], [(r_55, .inl (q.1, cap, .inl (fun _ => 0)))]]) (v := .ref r_55) (T := T_B) (N := 11) hx hb hts i_B t_B t_B_ok n_B hown hK hP hD hS 0 0 rfl rfl rfl 5 (by decide) (hts _ kw_132) rfl rfl hinit rfl (ty := t_B 5) (by decide +kernel) rfl rfl (Nat.le_of_ble_eq_true rfl) d_B_init_57 rfl (fun H locs hP hD hS => ?_)
    obtain ⟨ab, h_0, h_1, h_2, h_3⟩ : ∃ ab : Nat → Nat, ab 0 = o ∧ ab 1 = r_33 ∧ ab 2 = r_48 ∧ ab 3 = r_55 := ⟨fun i => ([o, r_33, r_48, r_55] : List Nat).getD i 0, rfl, rfl, rfl, rfl⟩
    subst h_0
    subst h_1
    subst h_2
    subst h_3
    obtain ⟨hP, hD⟩ := wz_ord (n := 5) (gs' := [[(ab 0, .inr (2, [.ref mr, .ref (ag 0), .int (nI 0), .ref (ab 1), .ref (ab 2), .ref (ab 3), .int (nI 0), .int (nI 0), .int (nI 0), .int (nI 0), .int (nI 0)]))], [(ab 1, .inl (q.1, cap, .inl fa))], [(ab 2, .inl (q.2.1, cap, .inr (.inl (fun _ => 0))))], [(ab 3, .inl (q.1, cap, .inl (fun _ => 0)))], gq_W q ag mr cap sb9 hs9 rl st sl cn9]) [0, 2, 3, 4, 1] rfl (by decide) rfl hP hD
    have hP : va_P D vwCl ([bl_W q ab mr (ag 0) 0 cap fa (fun _ => 0) (fun _ => 0) 0 0 0 (nI 0) (nI 0), gq_W q ag mr cap sb9 hs9 rl st sl cn9] : wz_G).flatten H := hP
    have hD : va_D A ([bl_W q ab mr (ag 0) 0 cap fa (fun _ => 0) (fun _ => 0) 0 0 0 (nI 0) (nI 0), gq_W q ag mr cap sb9 hs9 rl st sl cn9] : wz_G).flatten := hD
    refine W.widen (k := 3) (n := 120960) (Nat.le_of_ble_eq_true rfl) (by omega) ?_
    exact wz_vret hx hb hr hlocks hK hP hD hS d_B_init_60 ⟨ab, fa, _, _, rfl, hfa, rfl⟩
  · skip
    exact absurd rfl hc
def po_B_init1 (q : wz_Q) (o cap : Nat) (ag : Nat → Nat) (mr sb9 hs9 : Nat) (rl : Nat → Nat) (st sl : Nat → Int32) (cn9 : Nat) : wz_G → Prop := fun w => ∃ (ab : Nat → Nat) (fa : Nat → Int32) (wy : Nat → Int64) (re : Nat → Int32), ab 0 = o ∧ (∀ i, i < cap → fa i = -1) ∧ w = [bl_W q ab mr (ag 0) 6 cap fa wy re 0 0 0 (nI 0) (nI 0), gq_W q ag mr cap sb9 hs9 rl st sl cn9]
set_option maxHeartbeats 4000000 in
set_option maxRecDepth 100000 in
/-- nothing reached -/
theorem c_B_init1 (l : Launch) (D : va_G) (q : wz_Q) (o cap : Nat) (ag : Nat → Nat) (mr sb9 hs9 : Nat) (rl : Nat → Nat) (st sl : Nat → Int32) (cn9 : Nat) (hcap : cap ≤ 40320) : wz_Mv l y_B_init ws_B_init ({ frames := 1, cells := 3, slots := 120960, locals := 23 } : Room) D q ([.ref o, .int (nI cap), .ref (ag 0), .int (nI 1)] : List Value) [[(o, .inr (2, [.null, .null, .int (nI 0), .null, .null, .null, .int (nI 0), .int (nI 0), .int (nI 0), .int (nI 0), .int (nI 0)]))], gq_W q ag mr cap sb9 hs9 rl st sl cn9] (po_B_init1 q o cap ag mr sb9 hs9 rl st sl cn9) 3 120960 := by
  intro sz9
  refine wz_enter (cc := b_B_init) (maxL := 4) (ret := none) (Qc := fun A => (va_Qv (po_B_init1 q o cap ag mr sb9 hs9 rl st sl cn9) (wz_At D q A) A)) (by decide) (Nat.le_of_ble_eq_true rfl) ?_
  intro p e s m below meth c A ls C hP hD hS hl
  obtain ⟨hx, hb, hr, hml, hlocks, hown, hts, hN, hK, hA, hnm⟩ := C
  have hown : s.vm.findClass "TwoEndSearch$Ball" = some m.cls := hown
  have hl : lv_has ls 4 [(0, .ref o), (1, .int (nI cap)), (2, .ref (ag 0)), (3, .int (nI 1))] := hl
  have hinit : meth.name = "<init>" := hnm
  refine lv_aload_n hx hb d_B_init_0 rfl (lv_at hl 0 rfl) ?_
  refine W.objInit hx hb hown (hts _ kw_121) (hts _ kw_44) (hts _ kw_45) rfl (by rw [hml]; exact hl.1) rfl d_B_init_1 (Nat.le_of_ble_eq_true rfl) (Nat.le_of_ble_eq_true rfl) ?_
  refine W.eq (g2 := F0 m 4 ls []) rfl ?_
  refine lv_aload_n hx hb d_B_init_4 rfl (lv_at hl 0 rfl) ?_
  refine lv_aload_n hx hb d_B_init_5 rfl (lv_at hl 2 rfl) ?_
  refine wz_putF (gs' := [[(o, .inr (2, [.null, .ref (ag 0), .int (nI 0), .null, .null, .null, .int (nI 0), .int (nI 0), .int (nI 0), .int (nI 0), .int (nI 0)]))], gq_W q ag mr cap sb9 hs9 rl st sl cn9]) (v := .ref (ag 0)) (T := T_B) (N := 11) hx hb hts i_B t_B t_B_ok n_B hown hK hP hD hS 0 0 rfl rfl rfl 1 (by decide) (hts _ kw_126) rfl rfl hinit rfl (ty := t_B 1) (by decide +kernel) rfl rfl (Nat.le_of_ble_eq_true rfl) d_B_init_6 rfl (fun H locs hP hD hS => ?_)
  refine lv_aload_n hx hb d_B_init_9 rfl (lv_at hl 0 rfl) ?_
  refine lv_aload_n hx hb d_B_init_10 rfl (lv_at hl 2 rfl) ?_
  refine wz_getN (v := .ref mr) (T := T_G) (N := 6) hx hb hts i_G hown hK hP 1 0 rfl rfl rfl 0 (by decide) (hN.1 _ (List.mem_of_getElem? (i := 4) rfl)) rfl rfl d_B_init_11 ?_
  refine wz_putF (gs' := [[(o, .inr (2, [.ref mr, .ref (ag 0), .int (nI 0), .null, .null, .null, .int (nI 0), .int (nI 0), .int (nI 0), .int (nI 0), .int (nI 0)]))], gq_W q ag mr cap sb9 hs9 rl st sl cn9]) (v := .ref mr) (T := T_B) (N := 11) hx hb hts i_B t_B t_B_ok n_B hown hK hP hD hS 0 0 rfl rfl rfl 0 (by decide) (hts _ kw_125) rfl rfl hinit rfl (ty := t_B 0) (by decide +kernel) rfl rfl (Nat.le_of_ble_eq_true rfl) d_B_init_14 rfl (fun H locs hP hD hS => ?_)
  refine lv_aload_n hx hb d_B_init_17 rfl (lv_at hl 0 rfl) ?_
  refine lv_iload_n hx hb d_B_init_18 rfl (lv_at hl 3 rfl) ?_
  refine lv_if_eq (tgt := 27) hx hb d_B_init_19 (by decide) (fun hc => ?_) (fun hc => ?_)
  · skip
    exact absurd hc (by decide)
  · skip
    refine lv_bipush (v := nI 6) hx hb d_B_init_22 (by decide) ?_
    refine lv_goto (tgt := 28) hx hb d_B_init_24 (by decide) ?_
    refine wz_putF (gs' := [[(o, .inr (2, [.ref mr, .ref (ag 0), .int (nI 6), .null, .null, .null, .int (nI 0), .int (nI 0), .int (nI 0), .int (nI 0), .int (nI 0)]))], gq_W q ag mr cap sb9 hs9 rl st sl cn9]) (v := .int (nI 6)) (T := T_B) (N := 11) hx hb hts i_B t_B t_B_ok n_B hown hK hP hD hS 0 0 rfl rfl rfl 2 (by decide) (hts _ kw_127) rfl rfl hinit rfl (ty := t_B 2) (by decide +kernel) rfl rfl (Nat.le_of_ble_eq_true rfl) d_B_init_28 rfl (fun H locs hP hD hS => ?_)
    refine lv_aload_n hx hb d_B_init_31 rfl (lv_at hl 0 rfl) ?_
    refine lv_iload_n hx hb d_B_init_32 rfl (lv_at hl 1 rfl) ?_
    refine wz_newi (n := cap) hx hb (hts _ kw_76) hK hP hD hS hA (by omega) (Nat.le_of_ble_eq_true rfl) (by show _ ≤ 120960; omega) d_B_init_33 (fun r_33 H hP hD hS => ?_)
    have hP : va_P D vwCl ([[(o, .inr (2, [.ref mr, .ref (ag 0), .int (nI 6), .null, .null, .null, .int (nI 0), .int (nI 0), .int (nI 0), .int (nI 0), .int (nI 0)]))], gq_W q ag mr cap sb9 hs9 rl st sl cn9, [(r_33, .inl (q.1, cap, .inl (fun _ => 0)))]] : wz_G).flatten H := hP
    have hD : va_D A ([[(o, .inr (2, [.ref mr, .ref (ag 0), .int (nI 6), .null, .null, .null, .int (nI 0), .int (nI 0), .int (nI 0), .int (nI 0), .int (nI 0)]))], gq_W q ag mr cap sb9 hs9 rl st sl cn9, [(r_33, .inl (q.1, cap, .inl (fun _ => 0)))]] : wz_G).flatten := hD
    refine wz_putF (gs' := [[(o, .inr (2, [.ref mr, .ref (ag 0), .int (nI 6), .ref r_33, .null, .null, .int (nI 0), .int (nI 0), .int (nI 0), .int (nI 0), .int (nI 0)]))], gq_W q ag mr cap sb9 hs9 rl st sl cn9, [(r_33, .inl (q.1, cap, .inl (fun _ => 0)))]]) (v := .ref r_33) (T := T_B) (N := 11) hx hb hts i_B t_B t_B_ok n_B hown hK hP hD hS 0 0 rfl rfl rfl 3 (by decide) (hts _ kw_128) rfl rfl hinit rfl (ty := t_B 3) (by decide +kernel) rfl rfl (Nat.le_of_ble_eq_true rfl) d_B_init_35 rfl (fun H locs hP hD hS => ?_)
    refine lv_aload_n hx hb d_B_init_38 rfl (lv_at hl 0 rfl) ?_
    refine wz_get (v := .ref r_33) (T := T_B) (N := 11) hx hb hts i_B hown hK hP 0 0 rfl rfl rfl 3 (by decide) (hts _ kw_128) rfl rfl d_B_init_39 ?_
    refine lv_iconst (v := (-1)) hx hb d_B_init_42 (by decide) ?_
    have hQ := wz_split (n := 3) (gc := [[(r_33, .inl (q.1, cap, .inl (fun _ => 0)))]]) (gr := [[(o, .inr (2, [.ref mr, .ref (ag 0), .int (nI 6), .ref r_33, .null, .null, .int (nI 0), .int (nI 0), .int (nI 0), .int (nI 0), .int (nI 0)]))], gq_W q ag mr cap sb9 hs9 rl st sl cn9]) [2] [0, 1] rfl (by decide) rfl rfl hP hD
    refine wz_callv (va_runS (As := [.ref r_33, .int (-1)]) (rest := []) ⟨hx, hb, hml, hown, hts⟩ (c_A_fill l D q r_33 cap (fun _ => 0) (-1) (by omega) _) (va_cwS 2 hts (wz_goodS kw_122 kw_123 kw_36 kw_124) rfl rfl rfl (by decide +kernel) ⟨Nat.le_of_ble_eq_true rfl, Nat.le_of_ble_eq_true rfl⟩) (wz_preS hN hK hQ wz_L_ok) rfl rfl hl.1 rfl (lv_room (Nat.le_of_ble_eq_true rfl)) d_B_init_43 ⟨Nat.le_of_ble_eq_true rfl, (by show _ ≤ 120960; omega)⟩) hQ hS hA (fun gx H locs hp hP hD hS => ?_)
    obtain ⟨fa, rfl, hfa⟩ := hp
    obtain ⟨hP, hD⟩ := wz_ord (n := 3) (gs' := [[(o, .inr (2, [.ref mr, .ref (ag 0), .int (nI 6), .ref r_33, .null, .null, .int (nI 0), .int (nI 0), .int (nI 0), .int (nI 0), .int (nI 0)]))], gq_W q ag mr cap sb9 hs9 rl st sl cn9, [(r_33, .inl (q.1, cap, .inl fa))]]) [1, 2, 0] rfl (by decide) rfl hP hD
    refine lv_aload_n hx hb d_B_init_46 rfl (lv_at hl 0 rfl) ?_
    refine lv_iload_n hx hb d_B_init_47 rfl (lv_at hl 1 rfl) ?_
    refine wz_newl (n := cap) hx hb (hts _ kw_168) hK hP hD hS hA (by omega) (Nat.le_of_ble_eq_true rfl) (by show _ ≤ 120960; omega) d_B_init_48 (fun r_48 H hP hD hS => ?_)
    have hP : va_P D vwCl ([[(o, .inr (2, [.ref mr, .ref (ag 0), .int (nI 6), .ref r_33, .null, .null, .int (nI 0), .int (nI 0), .int (nI 0), .int (nI 0), .int (nI 0)]))], gq_W q ag mr cap sb9 hs9 rl st sl cn9, [(r_33, .inl (q.1, cap, .inl fa))], [(r_48, .inl (q.2.1, cap, .inr (.inl (fun _ => 0))))]] : wz_G).flatten H := hP
    have hD : va_D A ([[(o, .inr (2, [.ref mr, .ref (ag 0), .int (nI 6), .ref r_33, .null, .null, .int (nI 0), .int (nI 0), .int (nI 0), .int (nI 0), .int (nI 0)]))], gq_W q ag mr cap sb9 hs9 rl st sl cn9, [(r_33, .inl (q.1, cap, .inl fa))], [(r_48, .inl (q.2.1, cap, .inr (.inl (fun _ => 0))))]] : wz_G).flatten := hD
    refine wz_putF (gs' := [[(o, .inr (2, [.ref mr, .ref (ag 0), .int (nI 6), .ref r_33, .ref r_48, .null, .int (nI 0), .int (nI 0), .int (nI 0), .int (nI 0), .int (nI 0)]))], gq_W q ag mr cap sb9 hs9 rl st sl cn9, [(r_33, .inl (q.1, cap, .inl fa))], [(r_48, .inl (q.2.1, cap, .inr (.inl (fun _ => 0))))]]) (v := .ref r_48) (T := T_B) (N := 11) hx hb hts i_B t_B t_B_ok n_B hown hK hP hD hS 0 0 rfl rfl rfl 4 (by decide) (hts _ kw_130) rfl rfl hinit rfl (ty := t_B 4) (by decide +kernel) rfl rfl (Nat.le_of_ble_eq_true rfl) d_B_init_50 rfl (fun H locs hP hD hS => ?_)
    refine lv_aload_n hx hb d_B_init_53 rfl (lv_at hl 0 rfl) ?_
    refine lv_iload_n hx hb d_B_init_54 rfl (lv_at hl 1 rfl) ?_
    refine wz_newi (n := cap) hx hb (hts _ kw_76) hK hP hD hS hA (by omega) (Nat.le_of_ble_eq_true rfl) (by show _ ≤ 120960; omega) d_B_init_55 (fun r_55 H hP hD hS => ?_)
    have hP : va_P D vwCl ([[(o, .inr (2, [.ref mr, .ref (ag 0), .int (nI 6), .ref r_33, .ref r_48, .null, .int (nI 0), .int (nI 0), .int (nI 0), .int (nI 0), .int (nI 0)]))], gq_W q ag mr cap sb9 hs9 rl st sl cn9, [(r_33, .inl (q.1, cap, .inl fa))], [(r_48, .inl (q.2.1, cap, .inr (.inl (fun _ => 0))))], [(r_55, .inl (q.1, cap, .inl (fun _ => 0)))]] : wz_G).flatten H := hP
    have hD : va_D A ([[(o, .inr (2, [.ref mr, .ref (ag 0), .int (nI 6), .ref r_33, .ref r_48, .null, .int (nI 0), .int (nI 0), .int (nI 0), .int (nI 0), .int (nI 0)]))], gq_W q ag mr cap sb9 hs9 rl st sl cn9, [(r_33, .inl (q.1, cap, .inl fa))], [(r_48, .inl (q.2.1, cap, .inr (.inl (fun _ => 0))))], [(r_55, .inl (q.1, cap, .inl (fun _ => 0)))]] : wz_G).flatten := hD
    refine wz_putF (gs' := [[(o, .inr (2, [.ref mr, .ref (ag 0), .int (nI 6), .ref r_33, .ref r_48, .ref r_55, .int (nI 0), .int (nI 0), .int (nI 0), .int (nI 0), .int (nI 0)]))], gq_W q ag mr cap sb9 hs9 rl st sl cn9, [(r_33, .inl (q.1, cap, .inl fa))], [(r_48, .inl (q.2.1, cap, .inr (.inl (fun _ => 0))))], [(r_55, .inl (q.1, cap, .inl (fun _ => 0)))]]) (v := .ref r_55) (T := T_B) (N := 11) hx hb hts i_B t_B t_B_ok n_B hown hK hP hD hS 0 0 rfl rfl rfl 5 (by decide) (hts _ kw_132) rfl rfl hinit rfl (ty := t_B 5) (by decide +kernel) rfl rfl (Nat.le_of_ble_eq_true rfl) d_B_init_57 rfl (fun H locs hP hD hS => ?_)
    obtain ⟨ab, h_0, h_1, h_2, h_3⟩ : ∃ ab : Nat → Nat, ab 0 = o ∧ ab 1 = r_33 ∧ ab 2 = r_48 ∧ ab 3 = r_55 := ⟨fun i => ([o, r_33, r_48, r_55] : List Nat).getD i 0, rfl, rfl, rfl, rfl⟩
    subst h_0
    subst h_1
    subst h_2
    subst h_3
    obtain ⟨hP, hD⟩ := wz_ord (n := 5) (gs' := [[(ab 0, .inr (2, [.ref mr, .ref (ag 0), .int (nI 6), .ref (ab 1), .ref (ab 2), .ref (ab 3), .int (nI 0), .int (nI 0), .int (nI 0), .int (nI 0), .int (nI 0)]))], [(ab 1, .inl (q.1, cap, .inl fa))], [(ab 2, .inl (q.2.1, cap, .inr (.inl (fun _ => 0))))], [(ab 3, .inl (q.1, cap, .inl (fun _ => 0)))], gq_W q ag mr cap sb9 hs9 rl st sl cn9]) [0, 2, 3, 4, 1] rfl (by decide) rfl hP hD
    have hP : va_P D vwCl ([bl_W q ab mr (ag 0) 6 cap fa (fun _ => 0) (fun _ => 0) 0 0 0 (nI 0) (nI 0), gq_W q ag mr cap sb9 hs9 rl st sl cn9] : wz_G).flatten H := hP
    have hD : va_D A ([bl_W q ab mr (ag 0) 6 cap fa (fun _ => 0) (fun _ => 0) 0 0 0 (nI 0) (nI 0), gq_W q ag mr cap sb9 hs9 rl st sl cn9] : wz_G).flatten := hD
    refine W.widen (k := 3) (n := 120960) (Nat.le_of_ble_eq_true rfl) (by omega) ?_
    exact wz_vret hx hb hr hlocks hK hP hD hS d_B_init_60 ⟨ab, fa, _, _, rfl, hfa, rfl⟩
