def mv_can (n k : Nat) (sg : Nat → Nat → Nat) (x y z : Int32) (mo fr t : Nat) : Prop := mo < k ∧ fr < n ∧ t < n ∧ x = nI mo ∧ y = nI fr ∧ z = nI t ∧ fr ≠ t ∧ sg mo t = t
theorem wz_bit_0 {v : Int32} {P : Prop} (h : wz_bit v P) (e : v = 0) : ¬ P := by
  rcases h with h | h
  · rw [h.1] at e; exact absurd e (by decide)
  · exact h.2
theorem wz_bit_1 {v : Int32} {P : Prop} (h : wz_bit v P) (e : ¬ v = 0) : P := by
  rcases h with h | h
  · exact h.2
  · exact absurd h.1 e
theorem mv_aim_self {M : Nat → Nat → Int32} {k i : Nat} (h1 : ∀ p, p < i → M k p = nI p ∧ M (k + 6) p = nI p) (p : Nat) (hp : p < i + 1) : mv_aim M k i i k p = nI p ∧ mv_aim M k i i (k + 6) p = nI p := by
  rw [mv_aim_1, mv_aim_2]
  by_cases e : p = i
  · subst e; rw [pk_us, pk_us]; exact ⟨rfl, rfl⟩
  · rw [pk_un e, pk_un e]; exact h1 p (by omega)
theorem d_M_add_0 : decode b_M_add 0 = .ok (.aload_n 0, 1) := by decide +kernel
theorem d_M_add_1 : decode b_M_add 1 = .ok (.getfield 24, 3) := by decide +kernel
theorem d_M_add_4 : decode b_M_add 4 = .ok (.bipush 6, 2) := by decide +kernel
theorem d_M_add_6 : decode b_M_add 6 = .ok (.if_icmp .lt 5, 3) := by decide +kernel
theorem d_M_add_9 : decode b_M_add 9 = .ok (.iconst (-1), 1) := by decide +kernel
theorem d_M_add_10 : decode b_M_add 10 = .ok (.ireturn, 1) := by decide +kernel
theorem d_M_add_11 : decode b_M_add 11 = .ok (.aload_n 0, 1) := by decide +kernel
theorem d_M_add_12 : decode b_M_add 12 = .ok (.getfield 24, 3) := by decide +kernel
theorem d_M_add_15 : decode b_M_add 15 = .ok (.istore_n 1, 1) := by decide +kernel
theorem d_M_add_16 : decode b_M_add 16 = .ok (.iconst 0, 1) := by decide +kernel
theorem d_M_add_17 : decode b_M_add 17 = .ok (.istore_n 2, 1) := by decide +kernel
theorem d_M_add_18 : decode b_M_add 18 = .ok (.iload_n 2, 1) := by decide +kernel
theorem d_M_add_19 : decode b_M_add 19 = .ok (.bipush 8, 2) := by decide +kernel
theorem d_M_add_21 : decode b_M_add 21 = .ok (.if_icmp .ge 16, 3) := by decide +kernel
theorem d_M_add_24 : decode b_M_add 24 = .ok (.aload_n 0, 1) := by decide +kernel
theorem d_M_add_25 : decode b_M_add 25 = .ok (.iload_n 1, 1) := by decide +kernel
theorem d_M_add_26 : decode b_M_add 26 = .ok (.iload_n 2, 1) := by decide +kernel
theorem d_M_add_27 : decode b_M_add 27 = .ok (.iload_n 2, 1) := by decide +kernel
theorem d_M_add_28 : decode b_M_add 28 = .ok (.invokevirtual 27, 3) := by decide +kernel
theorem d_M_add_31 : decode b_M_add 31 = .ok (.iinc 2 1, 3) := by decide +kernel
theorem d_M_add_34 : decode b_M_add 34 = .ok (.goto (-16), 3) := by decide +kernel
theorem d_M_add_37 : decode b_M_add 37 = .ok (.aload_n 0, 1) := by decide +kernel
theorem d_M_add_38 : decode b_M_add 38 = .ok (.getfield 16, 3) := by decide +kernel
theorem d_M_add_41 : decode b_M_add 41 = .ok (.iload_n 1, 1) := by decide +kernel
theorem d_M_add_42 : decode b_M_add 42 = .ok (.iconst 1, 1) := by decide +kernel
theorem d_M_add_43 : decode b_M_add 43 = .ok (.iastore, 1) := by decide +kernel
theorem d_M_add_44 : decode b_M_add 44 = .ok (.aload_n 0, 1) := by decide +kernel
theorem d_M_add_45 : decode b_M_add 45 = .ok (.dup, 1) := by decide +kernel
theorem d_M_add_46 : decode b_M_add 46 = .ok (.getfield 24, 3) := by decide +kernel
theorem d_M_add_49 : decode b_M_add 49 = .ok (.iconst 1, 1) := by decide +kernel
theorem d_M_add_50 : decode b_M_add 50 = .ok (.iadd, 1) := by decide +kernel
theorem d_M_add_51 : decode b_M_add 51 = .ok (.putfield 24, 3) := by decide +kernel
theorem d_M_add_54 : decode b_M_add 54 = .ok (.iload_n 1, 1) := by decide +kernel
theorem d_M_add_55 : decode b_M_add 55 = .ok (.ireturn, 1) := by decide +kernel
theorem d_M_bring_0 : decode b_M_bring 0 = .ok (.aload_n 0, 1) := by decide +kernel
theorem d_M_bring_1 : decode b_M_bring 1 = .ok (.getfield 11, 3) := by decide +kernel
theorem d_M_bring_4 : decode b_M_bring 4 = .ok (.iload_n 1, 1) := by decide +kernel
theorem d_M_bring_5 : decode b_M_bring 5 = .ok (.aaload, 1) := by decide +kernel
theorem d_M_bring_6 : decode b_M_bring 6 = .ok (.astore_n 3, 1) := by decide +kernel
theorem d_M_bring_7 : decode b_M_bring 7 = .ok (.iconst 0, 1) := by decide +kernel
theorem d_M_bring_8 : decode b_M_bring 8 = .ok (.istore 4, 2) := by decide +kernel
theorem d_M_bring_10 : decode b_M_bring 10 = .ok (.iload_n 2, 1) := by decide +kernel
theorem d_M_bring_11 : decode b_M_bring 11 = .ok (.istore 5, 2) := by decide +kernel
theorem d_M_bring_13 : decode b_M_bring 13 = .ok (.iconst 0, 1) := by decide +kernel
theorem d_M_bring_14 : decode b_M_bring 14 = .ok (.istore 6, 2) := by decide +kernel
theorem d_M_bring_16 : decode b_M_bring 16 = .ok (.iload 6, 2) := by decide +kernel
theorem d_M_bring_18 : decode b_M_bring 18 = .ok (.aload_n 0, 1) := by decide +kernel
theorem d_M_bring_19 : decode b_M_bring 19 = .ok (.getfield 20, 3) := by decide +kernel
theorem d_M_bring_22 : decode b_M_bring 22 = .ok (.if_icmp .ge 32, 3) := by decide +kernel
theorem d_M_bring_25 : decode b_M_bring 25 = .ok (.iload 4, 2) := by decide +kernel
theorem d_M_bring_27 : decode b_M_bring 27 = .ok (.iload 5, 2) := by decide +kernel
theorem d_M_bring_29 : decode b_M_bring 29 = .ok (.bipush 7, 2) := by decide +kernel
theorem d_M_bring_31 : decode b_M_bring 31 = .ok (.iand, 1) := by decide +kernel
theorem d_M_bring_32 : decode b_M_bring 32 = .ok (.iconst 3, 1) := by decide +kernel
theorem d_M_bring_33 : decode b_M_bring 33 = .ok (.aload_n 3, 1) := by decide +kernel
theorem d_M_bring_34 : decode b_M_bring 34 = .ok (.iload 6, 2) := by decide +kernel
theorem d_M_bring_36 : decode b_M_bring 36 = .ok (.iaload, 1) := by decide +kernel
theorem d_M_bring_37 : decode b_M_bring 37 = .ok (.imul, 1) := by decide +kernel
theorem d_M_bring_38 : decode b_M_bring 38 = .ok (.ishl, 1) := by decide +kernel
theorem d_M_bring_39 : decode b_M_bring 39 = .ok (.ior, 1) := by decide +kernel
theorem d_M_bring_40 : decode b_M_bring 40 = .ok (.istore 4, 2) := by decide +kernel
theorem d_M_bring_42 : decode b_M_bring 42 = .ok (.iload 5, 2) := by decide +kernel
theorem d_M_bring_44 : decode b_M_bring 44 = .ok (.iconst 3, 1) := by decide +kernel
theorem d_M_bring_45 : decode b_M_bring 45 = .ok (.iushr, 1) := by decide +kernel
theorem d_M_bring_46 : decode b_M_bring 46 = .ok (.istore 5, 2) := by decide +kernel
theorem d_M_bring_48 : decode b_M_bring 48 = .ok (.iinc 6 1, 3) := by decide +kernel
theorem d_M_bring_51 : decode b_M_bring 51 = .ok (.goto (-35), 3) := by decide +kernel
theorem d_M_bring_54 : decode b_M_bring 54 = .ok (.iload 4, 2) := by decide +kernel
theorem d_M_bring_56 : decode b_M_bring 56 = .ok (.ireturn, 1) := by decide +kernel
theorem d_X_firstState_0 : decode b_X_firstState 0 = .ok (.iconst 0, 1) := by decide +kernel
theorem d_X_firstState_1 : decode b_X_firstState 1 = .ok (.istore_n 1, 1) := by decide +kernel
theorem d_X_firstState_2 : decode b_X_firstState 2 = .ok (.iconst 0, 1) := by decide +kernel
theorem d_X_firstState_3 : decode b_X_firstState 3 = .ok (.istore_n 2, 1) := by decide +kernel
theorem d_X_firstState_4 : decode b_X_firstState 4 = .ok (.iload_n 2, 1) := by decide +kernel
theorem d_X_firstState_5 : decode b_X_firstState 5 = .ok (.iload_n 0, 1) := by decide +kernel
theorem d_X_firstState_6 : decode b_X_firstState 6 = .ok (.if_icmp .ge 17, 3) := by decide +kernel
theorem d_X_firstState_9 : decode b_X_firstState 9 = .ok (.iload_n 1, 1) := by decide +kernel
theorem d_X_firstState_10 : decode b_X_firstState 10 = .ok (.iload_n 2, 1) := by decide +kernel
theorem d_X_firstState_11 : decode b_X_firstState 11 = .ok (.iconst 3, 1) := by decide +kernel
theorem d_X_firstState_12 : decode b_X_firstState 12 = .ok (.iload_n 2, 1) := by decide +kernel
theorem d_X_firstState_13 : decode b_X_firstState 13 = .ok (.imul, 1) := by decide +kernel
theorem d_X_firstState_14 : decode b_X_firstState 14 = .ok (.ishl, 1) := by decide +kernel
theorem d_X_firstState_15 : decode b_X_firstState 15 = .ok (.ior, 1) := by decide +kernel
theorem d_X_firstState_16 : decode b_X_firstState 16 = .ok (.istore_n 1, 1) := by decide +kernel
theorem d_X_firstState_17 : decode b_X_firstState 17 = .ok (.iinc 2 1, 3) := by decide +kernel
theorem d_X_firstState_20 : decode b_X_firstState 20 = .ok (.goto (-16), 3) := by decide +kernel
theorem d_X_firstState_23 : decode b_X_firstState 23 = .ok (.iload_n 1, 1) := by decide +kernel
theorem d_X_firstState_24 : decode b_X_firstState 24 = .ok (.ireturn, 1) := by decide +kernel
theorem d_M_countOrder_0 : decode b_M_countOrder 0 = .ok (.aload_n 0, 1) := by decide +kernel
theorem d_M_countOrder_1 : decode b_M_countOrder 1 = .ok (.getfield 20, 3) := by decide +kernel
theorem d_M_countOrder_4 : decode b_M_countOrder 4 = .ok (.invokestatic 42, 3) := by decide +kernel
theorem d_M_countOrder_7 : decode b_M_countOrder 7 = .ok (.istore_n 2, 1) := by decide +kernel
theorem d_M_countOrder_8 : decode b_M_countOrder 8 = .ok (.iload_n 2, 1) := by decide +kernel
theorem d_M_countOrder_9 : decode b_M_countOrder 9 = .ok (.istore_n 3, 1) := by decide +kernel
theorem d_M_countOrder_10 : decode b_M_countOrder 10 = .ok (.iconst 1, 1) := by decide +kernel
theorem d_M_countOrder_11 : decode b_M_countOrder 11 = .ok (.istore 4, 2) := by decide +kernel
theorem d_M_countOrder_13 : decode b_M_countOrder 13 = .ok (.iload 4, 2) := by decide +kernel
theorem d_M_countOrder_15 : decode b_M_countOrder 15 = .ok (.bipush 15, 2) := by decide +kernel
theorem d_M_countOrder_17 : decode b_M_countOrder 17 = .ok (.if_icmp .ge 24, 3) := by decide +kernel
theorem d_M_countOrder_20 : decode b_M_countOrder 20 = .ok (.aload_n 0, 1) := by decide +kernel
theorem d_M_countOrder_21 : decode b_M_countOrder 21 = .ok (.iload_n 1, 1) := by decide +kernel
theorem d_M_countOrder_22 : decode b_M_countOrder 22 = .ok (.iload_n 3, 1) := by decide +kernel
theorem d_M_countOrder_23 : decode b_M_countOrder 23 = .ok (.invokevirtual 45, 3) := by decide +kernel
theorem d_M_countOrder_26 : decode b_M_countOrder 26 = .ok (.istore_n 3, 1) := by decide +kernel
theorem d_M_countOrder_27 : decode b_M_countOrder 27 = .ok (.iload_n 3, 1) := by decide +kernel
theorem d_M_countOrder_28 : decode b_M_countOrder 28 = .ok (.iload_n 2, 1) := by decide +kernel
theorem d_M_countOrder_29 : decode b_M_countOrder 29 = .ok (.if_icmp .ne 6, 3) := by decide +kernel
theorem d_M_countOrder_32 : decode b_M_countOrder 32 = .ok (.iload 4, 2) := by decide +kernel
theorem d_M_countOrder_34 : decode b_M_countOrder 34 = .ok (.ireturn, 1) := by decide +kernel
theorem d_M_countOrder_35 : decode b_M_countOrder 35 = .ok (.iinc 4 1, 3) := by decide +kernel
theorem d_M_countOrder_38 : decode b_M_countOrder 38 = .ok (.goto (-25), 3) := by decide +kernel
theorem d_M_countOrder_41 : decode b_M_countOrder 41 = .ok (.bipush 15, 2) := by decide +kernel
theorem d_M_countOrder_43 : decode b_M_countOrder 43 = .ok (.ireturn, 1) := by decide +kernel
theorem d_M_lengthen_0 : decode b_M_lengthen 0 = .ok (.aload_n 0, 1) := by decide +kernel
theorem d_M_lengthen_1 : decode b_M_lengthen 1 = .ok (.iload_n 1, 1) := by decide +kernel
theorem d_M_lengthen_2 : decode b_M_lengthen 2 = .ok (.invokevirtual 31, 3) := by decide +kernel
theorem d_M_lengthen_5 : decode b_M_lengthen 5 = .ok (.ifCond .eq 24, 3) := by decide +kernel
theorem d_M_lengthen_8 : decode b_M_lengthen 8 = .ok (.aload_n 0, 1) := by decide +kernel
theorem d_M_lengthen_9 : decode b_M_lengthen 9 = .ok (.iload_n 2, 1) := by decide +kernel
theorem d_M_lengthen_10 : decode b_M_lengthen 10 = .ok (.invokevirtual 35, 3) := by decide +kernel
theorem d_M_lengthen_13 : decode b_M_lengthen 13 = .ok (.ifCond .eq 16, 3) := by decide +kernel
theorem d_M_lengthen_16 : decode b_M_lengthen 16 = .ok (.aload_n 0, 1) := by decide +kernel
theorem d_M_lengthen_17 : decode b_M_lengthen 17 = .ok (.iload_n 3, 1) := by decide +kernel
theorem d_M_lengthen_18 : decode b_M_lengthen 18 = .ok (.invokevirtual 35, 3) := by decide +kernel
theorem d_M_lengthen_21 : decode b_M_lengthen 21 = .ok (.ifCond .eq 8, 3) := by decide +kernel
theorem d_M_lengthen_24 : decode b_M_lengthen 24 = .ok (.iload_n 2, 1) := by decide +kernel
theorem d_M_lengthen_25 : decode b_M_lengthen 25 = .ok (.iload_n 3, 1) := by decide +kernel
theorem d_M_lengthen_26 : decode b_M_lengthen 26 = .ok (.if_icmp .ne 5, 3) := by decide +kernel
theorem d_M_lengthen_29 : decode b_M_lengthen 29 = .ok (.iconst 0, 1) := by decide +kernel
theorem d_M_lengthen_30 : decode b_M_lengthen 30 = .ok (.ireturn, 1) := by decide +kernel
theorem d_M_lengthen_31 : decode b_M_lengthen 31 = .ok (.aload_n 0, 1) := by decide +kernel
theorem d_M_lengthen_32 : decode b_M_lengthen 32 = .ok (.getfield 11, 3) := by decide +kernel
theorem d_M_lengthen_35 : decode b_M_lengthen 35 = .ok (.iload_n 1, 1) := by decide +kernel
theorem d_M_lengthen_36 : decode b_M_lengthen 36 = .ok (.aaload, 1) := by decide +kernel
theorem d_M_lengthen_37 : decode b_M_lengthen 37 = .ok (.iload_n 3, 1) := by decide +kernel
theorem d_M_lengthen_38 : decode b_M_lengthen 38 = .ok (.iaload, 1) := by decide +kernel
theorem d_M_lengthen_39 : decode b_M_lengthen 39 = .ok (.iload_n 3, 1) := by decide +kernel
theorem d_M_lengthen_40 : decode b_M_lengthen 40 = .ok (.if_icmp .eq 5, 3) := by decide +kernel
theorem d_M_lengthen_43 : decode b_M_lengthen 43 = .ok (.iconst 0, 1) := by decide +kernel
theorem d_M_lengthen_44 : decode b_M_lengthen 44 = .ok (.ireturn, 1) := by decide +kernel
theorem d_M_lengthen_45 : decode b_M_lengthen 45 = .ok (.aload_n 0, 1) := by decide +kernel
theorem d_M_lengthen_46 : decode b_M_lengthen 46 = .ok (.getfield 11, 3) := by decide +kernel
theorem d_M_lengthen_49 : decode b_M_lengthen 49 = .ok (.iload_n 1, 1) := by decide +kernel
theorem d_M_lengthen_50 : decode b_M_lengthen 50 = .ok (.aaload, 1) := by decide +kernel
theorem d_M_lengthen_51 : decode b_M_lengthen 51 = .ok (.iload_n 2, 1) := by decide +kernel
theorem d_M_lengthen_52 : decode b_M_lengthen 52 = .ok (.iaload, 1) := by decide +kernel
theorem d_M_lengthen_53 : decode b_M_lengthen 53 = .ok (.istore 4, 2) := by decide +kernel
theorem d_M_lengthen_55 : decode b_M_lengthen 55 = .ok (.aload_n 0, 1) := by decide +kernel
theorem d_M_lengthen_56 : decode b_M_lengthen 56 = .ok (.iload_n 1, 1) := by decide +kernel
theorem d_M_lengthen_57 : decode b_M_lengthen 57 = .ok (.iload_n 2, 1) := by decide +kernel
theorem d_M_lengthen_58 : decode b_M_lengthen 58 = .ok (.iload_n 3, 1) := by decide +kernel
theorem d_M_lengthen_59 : decode b_M_lengthen 59 = .ok (.invokevirtual 27, 3) := by decide +kernel
theorem d_M_lengthen_62 : decode b_M_lengthen 62 = .ok (.aload_n 0, 1) := by decide +kernel
theorem d_M_lengthen_63 : decode b_M_lengthen 63 = .ok (.iload_n 1, 1) := by decide +kernel
theorem d_M_lengthen_64 : decode b_M_lengthen 64 = .ok (.iload_n 3, 1) := by decide +kernel
theorem d_M_lengthen_65 : decode b_M_lengthen 65 = .ok (.iload 4, 2) := by decide +kernel
theorem d_M_lengthen_67 : decode b_M_lengthen 67 = .ok (.invokevirtual 27, 3) := by decide +kernel
theorem d_M_lengthen_70 : decode b_M_lengthen 70 = .ok (.aload_n 0, 1) := by decide +kernel
theorem d_M_lengthen_71 : decode b_M_lengthen 71 = .ok (.getfield 16, 3) := by decide +kernel
theorem d_M_lengthen_74 : decode b_M_lengthen 74 = .ok (.iload_n 1, 1) := by decide +kernel
theorem d_M_lengthen_75 : decode b_M_lengthen 75 = .ok (.aload_n 0, 1) := by decide +kernel
theorem d_M_lengthen_76 : decode b_M_lengthen 76 = .ok (.iload_n 1, 1) := by decide +kernel
theorem d_M_lengthen_77 : decode b_M_lengthen 77 = .ok (.invokevirtual 38, 3) := by decide +kernel
theorem d_M_lengthen_80 : decode b_M_lengthen 80 = .ok (.iastore, 1) := by decide +kernel
theorem d_M_lengthen_81 : decode b_M_lengthen 81 = .ok (.iconst 1, 1) := by decide +kernel
theorem d_M_lengthen_82 : decode b_M_lengthen 82 = .ok (.ireturn, 1) := by decide +kernel
theorem kw_0 : (Cond.selects "TwoEndSearch$Moves" ⟨"TwoEndSearch$Moves", "aim", "(III)V"⟩ ⟨"TwoEndSearch$Moves", "aim", "(III)V"⟩ : Cond) ∈ bigW := bigW_of 0 (by decide +kernel) (by decide +kernel)
theorem kw_2 : (Cond.selects "TwoEndSearch$Moves" ⟨"TwoEndSearch$Moves", "isPlace", "(I)Z"⟩ ⟨"TwoEndSearch$Moves", "isPlace", "(I)Z"⟩ : Cond) ∈ bigW := bigW_of 2 (by decide +kernel) (by decide +kernel)
theorem kw_3 : (Cond.selects "TwoEndSearch$Moves" ⟨"TwoEndSearch$Moves", "countOrder", "(I)I"⟩ ⟨"TwoEndSearch$Moves", "countOrder", "(I)I"⟩ : Cond) ∈ bigW := bigW_of 3 (by decide +kernel) (by decide +kernel)
theorem kw_30 : (Cond.initialized "TwoEndSearch" : Cond) ∈ bigW := bigW_of 30 (by decide +kernel) (by decide +kernel)
theorem kw_32 : (Cond.initialized "TwoEndSearch$Moves" : Cond) ∈ bigW := bigW_of 32 (by decide +kernel) (by decide +kernel)
theorem kw_78 : (Cond.static ⟨"TwoEndSearch", "firstState", "(I)I"⟩ : Cond) ∈ bigW := bigW_of 78 (by decide +kernel) (by decide +kernel)
theorem kw_79 : (Cond.code ⟨"TwoEndSearch", "firstState", "(I)I"⟩ prog_1_method_17_code 3 (some .int) : Cond) ∈ bigW := bigW_of 79 (by decide +kernel) (by decide +kernel)
theorem kw_234 : (Cond.methodLink "TwoEndSearch$Moves" 27 ⟨"TwoEndSearch$Moves", "aim", "(III)V"⟩ : Cond) ∈ bigW := bigW_of 234 (by decide +kernel) (by decide +kernel)
theorem kw_236 : (Cond.instanceMethod ⟨"TwoEndSearch$Moves", "aim", "(III)V"⟩ : Cond) ∈ bigW := bigW_of 236 (by decide +kernel) (by decide +kernel)
theorem kw_237 : (Cond.code ⟨"TwoEndSearch$Moves", "aim", "(III)V"⟩ prog_4_method_10_code 4 none : Cond) ∈ bigW := bigW_of 237 (by decide +kernel) (by decide +kernel)
theorem kw_254 : (Cond.methodLink "TwoEndSearch$Moves" 31 ⟨"TwoEndSearch$Moves", "has", "(I)Z"⟩ : Cond) ∈ bigW := bigW_of 254 (by decide +kernel) (by decide +kernel)
theorem kw_255 : (Cond.instanceMethod ⟨"TwoEndSearch$Moves", "has", "(I)Z"⟩ : Cond) ∈ bigW := bigW_of 255 (by decide +kernel) (by decide +kernel)
theorem kw_256 : (Cond.selects "TwoEndSearch$Moves" ⟨"TwoEndSearch$Moves", "has", "(I)Z"⟩ ⟨"TwoEndSearch$Moves", "has", "(I)Z"⟩ : Cond) ∈ bigW := bigW_of 256 (by decide +kernel) (by decide +kernel)
theorem kw_257 : (Cond.code ⟨"TwoEndSearch$Moves", "has", "(I)Z"⟩ prog_4_method_2_code 2 (some .boolean) : Cond) ∈ bigW := bigW_of 257 (by decide +kernel) (by decide +kernel)
theorem kw_258 : (Cond.methodLink "TwoEndSearch$Moves" 35 ⟨"TwoEndSearch$Moves", "isPlace", "(I)Z"⟩ : Cond) ∈ bigW := bigW_of 258 (by decide +kernel) (by decide +kernel)
theorem kw_260 : (Cond.instanceMethod ⟨"TwoEndSearch$Moves", "isPlace", "(I)Z"⟩ : Cond) ∈ bigW := bigW_of 260 (by decide +kernel) (by decide +kernel)
theorem kw_261 : (Cond.code ⟨"TwoEndSearch$Moves", "isPlace", "(I)Z"⟩ prog_4_method_9_code 2 (some .boolean) : Cond) ∈ bigW := bigW_of 261 (by decide +kernel) (by decide +kernel)
theorem kw_262 : (Cond.methodLink "TwoEndSearch$Moves" 38 ⟨"TwoEndSearch$Moves", "countOrder", "(I)I"⟩ : Cond) ∈ bigW := bigW_of 262 (by decide +kernel) (by decide +kernel)
theorem kw_264 : (Cond.instanceMethod ⟨"TwoEndSearch$Moves", "countOrder", "(I)I"⟩ : Cond) ∈ bigW := bigW_of 264 (by decide +kernel) (by decide +kernel)
theorem kw_265 : (Cond.code ⟨"TwoEndSearch$Moves", "countOrder", "(I)I"⟩ prog_4_method_11_code 5 (some .int) : Cond) ∈ bigW := bigW_of 265 (by decide +kernel) (by decide +kernel)
theorem kw_267 : (Cond.methodLink "TwoEndSearch$Moves" 45 ⟨"TwoEndSearch$Moves", "bring", "(II)I"⟩ : Cond) ∈ bigW := bigW_of 267 (by decide +kernel) (by decide +kernel)
theorem kw_268 : (Cond.instanceMethod ⟨"TwoEndSearch$Moves", "bring", "(II)I"⟩ : Cond) ∈ bigW := bigW_of 268 (by decide +kernel) (by decide +kernel)
theorem kw_269 : (Cond.selects "TwoEndSearch$Moves" ⟨"TwoEndSearch$Moves", "bring", "(II)I"⟩ ⟨"TwoEndSearch$Moves", "bring", "(II)I"⟩ : Cond) ∈ bigW := bigW_of 269 (by decide +kernel) (by decide +kernel)
theorem kw_270 : (Cond.code ⟨"TwoEndSearch$Moves", "bring", "(II)I"⟩ prog_4_method_7_code 7 (some .int) : Cond) ∈ bigW := bigW_of 270 (by decide +kernel) (by decide +kernel)
def po_M_add (q : wz_Q) (a : Nat → Nat) (n k : Nat) (r : Nat → Nat) (f : Nat → Int32) (M : Nat → Nat → Int32) : Int32 → wz_G → Prop := fun v w => (6 ≤ k ∧ v = -1 ∧ w = [mv_W q a n k r f, wz_rows 12 r (fun i9 => .inl (q.1, 8, .inl (M i9)))]) ∨ (k < 6 ∧ v = nI k ∧ ∃ M' : Nat → Nat → Int32, w = [mv_W q a n (k + 1) r (upd f k (nI 1)), wz_rows 12 r (fun i9 => .inl (q.1, 8, .inl (M' i9)))] ∧ (∀ p, p < 8 → M' k p = nI p ∧ M' (k + 6) p = nI p) ∧ ∀ i, i ≠ k → i ≠ k + 6 → M' i = M i)
set_option maxHeartbeats 4000000 in
set_option maxRecDepth 100000 in
/-- a move that leaves everything -/
theorem c_M_add (l : Launch) (D : va_G) (q : wz_Q) (a : Nat → Nat) (n k : Nat) (r : Nat → Nat) (f : Nat → Int32) (M : Nat → Nat → Int32) (hk : k ≤ 6) : wz_Mi l y_M_add ws_M_add ({ frames := 1, cells := 0, slots := 0, locals := 23 } : Room) D q ([.ref (a 0)] : List Value) [mv_W q a n k r f, wz_rows 12 r (fun i9 => .inl (q.1, 8, .inl (M i9)))] (po_M_add q a n k r f M) 0 0 := by
  intro sz9
  refine wz_enter (cc := b_M_add) (maxL := 3) (ret := (some .int)) (Qc := fun A => (va_Qi (po_M_add q a n k r f M) (wz_At D q A) A)) (by decide) (Nat.le_of_ble_eq_true rfl) ?_
  intro p e s m below meth c A ls C hP hD hS hl
  obtain ⟨hx, hb, hr, hml, hlocks, hown, hts, hN, hK, hA, hnm⟩ := C
  have hown : s.vm.findClass "TwoEndSearch$Moves" = some m.cls := hown
  have hl : lv_has ls 3 [(0, .ref (a 0))] := hl
  refine lv_aload_n hx hb d_M_add_0 rfl (lv_at hl 0 rfl) ?_
  refine wz_get (v := .int (nI k)) (T := T_M) (N := 4) hx hb hts i_M hown hK hP 0 0 rfl rfl rfl 3 (by decide) (hts _ kw_63) rfl rfl d_M_add_1 ?_
  refine lv_bipush (v := nI 6) hx hb d_M_add_4 (by decide) ?_
  refine wz_lt (tgt := 11) hx hb d_M_add_6 (by decide) (by omega) (by omega) (fun hc => ?_) (fun hc => ?_)
  · skip
    refine lv_aload_n hx hb d_M_add_11 rfl (lv_at hl 0 rfl) ?_
    refine wz_get (v := .int (nI k)) (T := T_M) (N := 4) hx hb hts i_M hown hK hP 0 0 rfl rfl rfl 3 (by decide) (hts _ kw_63) rfl rfl d_M_add_12 ?_
    refine lv_istore_n (lv' := [(1, .int (nI k)), (0, .ref (a 0))]) hx hb d_M_add_15 rfl hl (by decide) rfl (fun ls hl => ?_)
    refine lv_iconst (v := nI 0) hx hb d_M_add_16 (by decide) ?_
    refine lv_istore_n (lv' := [(2, .int (nI 0)), (1, .int (nI k)), (0, .ref (a 0))]) hx hb d_M_add_17 rfl hl (by decide) rfl (fun ls hl => ?_)
    have loop : ∀ (d : Nat) (i : Nat) (M1 : Nat → Nat → Int32), i ≤ 8 → 9 ≤ i + d → (∀ p, p < i → M1 k p = nI p ∧ M1 (k + 6) p = nI p) → (∀ j, j ≠ k → j ≠ k + 6 → M1 j = M j) → ∀ (H : Heap) (locs : List Loc) (ls : Array Slot), va_P D vwCl ([mv_W q a n k r f, wz_rows 12 r (fun i9 => .inl (q.1, 8, .inl (M1 i9)))] : wz_G).flatten H → va_D A ([mv_W q a n k r f, wz_rows 12 r (fun i9 => .inl (q.1, 8, .inl (M1 i9)))] : wz_G).flatten → va_S A s.heap H locs → lv_has ls 3 [(0, .ref (a 0)), (1, .int (nI k)), (2, .int (nI i))] → W p l e ({ frames := 1, cells := 0, slots := 0, locals := 23 } : Room) s m ([.ref (a 0)] : List Value).toArray below meth c H locs 0 0 (MQ below (va_Qi (po_M_add q a n k r f M) (wz_At D q A) A) ([.ref (a 0)] : List Value).toArray s 0 0 A) (F0 m 18 ls []) := by
      intro d
      induction d with
      | zero =>
        intro i M1 hi hd h1 h2
        omega
      | succ d ih =>
        intro i M1 hi hd h1 h2 H locs ls hP hD hS hl
        refine lv_iload_n hx hb d_M_add_18 rfl (lv_at hl 2 rfl) ?_
        refine lv_bipush (v := nI 8) hx hb d_M_add_19 (by decide) ?_
        refine wz_ge (tgt := 37) hx hb d_M_add_21 (by decide) (by omega) (by omega) (fun hc2 => ?_) (fun hc2 => ?_)
        · skip
          refine lv_aload_n hx hb d_M_add_37 rfl (lv_at hl 0 rfl) ?_
          refine wz_get (v := .ref (a 2)) (T := T_M) (N := 4) hx hb hts i_M hown hK hP 0 0 rfl rfl rfl 2 (by decide) (hts _ kw_62) rfl rfl d_M_add_38 ?_
          refine lv_iload_n hx hb d_M_add_41 rfl (lv_at hl 1 rfl) ?_
          refine lv_iconst (v := nI 1) hx hb d_M_add_42 (by decide) ?_
          refine wz_iast (gs' := [mv_W q a n k r (upd f k (nI 1)), wz_rows 12 r (fun i9 => .inl (q.1, 8, .inl (M1 i9)))]) hx hb hK hP hD hS 0 2 (j := k) rfl rfl (by omega) (by decide) d_M_add_43 rfl (fun H locs hP hD hS => ?_)
          refine lv_aload_n hx hb d_M_add_44 rfl (lv_at hl 0 rfl) ?_
          refine lv_dup hx hb d_M_add_45 rfl ?_
          refine wz_get (v := .int (nI k)) (T := T_M) (N := 4) hx hb hts i_M hown hK hP 0 0 rfl rfl rfl 3 (by decide) (hts _ kw_63) rfl rfl d_M_add_46 ?_
          refine lv_iconst (v := nI 1) hx hb d_M_add_49 (by decide) ?_
          refine lv_iadd hx hb d_M_add_50 ?_
          refine wz_topi (y := nI (k + 1)) (nI_add k 1) ?_
          refine wz_put (gs' := [mv_W q a n (k + 1) r (upd f k (nI 1)), wz_rows 12 r (fun i9 => .inl (q.1, 8, .inl (M1 i9)))]) (v := .int (nI (k + 1))) (T := T_M) (N := 4) hx hb hts i_M t_M t_M_ok n_M hown hK hP hD hS 0 0 rfl rfl rfl 3 (by decide) (hts _ kw_63) rfl rfl (ty := t_M 3) (by decide +kernel) rfl rfl (Nat.le_of_ble_eq_true rfl) d_M_add_51 rfl (fun H locs hP hD hS => ?_)
          refine lv_iload_n hx hb d_M_add_54 rfl (lv_at hl 1 rfl) ?_
          exact wz_iret hx hb hr hlocks hK hP hD hS d_M_add_55 (Or.inr ⟨hc, rfl, M1, rfl, fun p hp => h1 p (by omega), h2⟩)
        · skip
          refine lv_aload_n hx hb d_M_add_24 rfl (lv_at hl 0 rfl) ?_
          refine lv_iload_n hx hb d_M_add_25 rfl (lv_at hl 1 rfl) ?_
          refine lv_iload_n hx hb d_M_add_26 rfl (lv_at hl 2 rfl) ?_
          refine lv_iload_n hx hb d_M_add_27 rfl (lv_at hl 2 rfl) ?_
          have hQ := wz_split (n := 2) (gc := [mv_W q a n k r f, wz_rows 12 r (fun i9 => .inl (q.1, 8, .inl (M1 i9)))]) (gr := []) [0, 1] [] rfl (by decide) rfl rfl hP hD
          refine wz_callv (va_runV (As := [.int (nI k), .int (nI i), .int (nI i)]) (rest := []) ⟨hx, hb, hml, hown, hts⟩ (c_M_aim l D q a n k r f M1 k i i (by omega) (by omega) (by omega) _) (cwV 3 hts (wz_goodV kw_234 kw_236 kw_0 kw_32 kw_237) rfl rfl rfl (by decide +kernel) ⟨Nat.le_of_ble_eq_true rfl, Nat.le_of_ble_eq_true rfl⟩) (wz_preV (gi := 0) (k := 0) hN hK hQ wz_L_ok rfl rfl rfl) rfl rfl hl.1 rfl (lv_room (Nat.le_of_ble_eq_true rfl)) d_M_add_28 ⟨Nat.le_of_ble_eq_true rfl, Nat.le_of_ble_eq_true rfl⟩) hQ hS hA (fun gx H locs hp hP hD hS => ?_)
          have hp : gx = _ := hp
          subst hp
          obtain ⟨hP, hD⟩ := wz_ord (n := 2) (gs' := [mv_W q a n k r f, wz_rows 12 r (fun i9 => .inl (q.1, 8, .inl ((mv_aim M1 k i i) i9)))]) [0, 1] rfl (by decide) rfl hP hD
          refine lv_iinc (v := nI (i + 1)) (lv' := [(2, .int (nI (i + 1))), (0, .ref (a 0)), (1, .int (nI k))]) hx hb d_M_add_31 hl (k := 2) rfl (nI_1 i) (by decide) rfl (fun ls hl => ?_)
          refine lv_goto (tgt := 18) hx hb d_M_add_34 (by decide) ?_
          exact ih (i + 1) (mv_aim M1 k i i) (by omega) (by omega) (fun p hp => mv_aim_self h1 p hp) (fun j hj1 hj2 => (mv_aim_n M1 hj1 hj2).trans (h2 j hj1 hj2)) _ _ _ hP hD hS (lv_sub hl [1, 2, 0] rfl)
    exact loop 9 0 M (by omega) (by omega) (fun p hp => absurd hp (by omega)) (fun _ _ _ => rfl) _ _ _ hP hD hS (lv_sub hl [2, 1, 0] rfl)
  · skip
    refine lv_iconst (v := (-1)) hx hb d_M_add_9 (by decide) ?_
    exact wz_iret hx hb hr hlocks hK hP hD hS d_M_add_10 (Or.inl ⟨by omega, rfl, rfl⟩)
def po_M_bring (q : wz_Q) (a : Nat → Nat) (n k : Nat) (r : Nat → Nat) (f : Nat → Int32) (M : Nat → Nat → Int32) (u cd : Nat) (sg tu : Nat → Nat) : Int32 → wz_G → Prop := fun v w => w = [mv_W q a n k r f, wz_rows 12 r (fun i9 => .inl (q.1, 8, .inl (M i9)))] ∧ v = nI (pz_act n tu cd)
set_option maxHeartbeats 4000000 in
set_option maxRecDepth 100000 in
/-- a state with a move done to it -/
theorem c_M_bring (l : Launch) (D : va_G) (q : wz_Q) (a : Nat → Nat) (n k : Nat) (r : Nat → Nat) (f : Nat → Int32) (M : Nat → Nat → Int32) (u cd : Nat) (sg tu : Nat → Nat) (hn : n ≤ 8) (hu : u < 12) (hc8 : cd < 8 ^ n) (hs : ∀ p, p < n → M u p = nI (sg p)) (hpm : pz_perm n sg tu) : wz_Mi l y_M_bring ws_M_bring ({ frames := 0, cells := 0, slots := 0, locals := 0 } : Room) D q ([.ref (a 0), .int (nI u), .int (nI cd)] : List Value) [mv_W q a n k r f, wz_rows 12 r (fun i9 => .inl (q.1, 8, .inl (M i9)))] (po_M_bring q a n k r f M u cd sg tu) 0 0 := by
  intro sz9
  refine wz_enter (cc := b_M_bring) (maxL := 7) (ret := (some .int)) (Qc := fun A => (va_Qi (po_M_bring q a n k r f M u cd sg tu) (wz_At D q A) A)) (by decide) (Nat.le_of_ble_eq_true rfl) ?_
  intro p e s m below meth c A ls C hP hD hS hl
  obtain ⟨hx, hb, hr, hml, hlocks, hown, hts, hN, hK, hA, hnm⟩ := C
  have hown : s.vm.findClass "TwoEndSearch$Moves" = some m.cls := hown
  have hl : lv_has ls 7 [(0, .ref (a 0)), (1, .int (nI u)), (2, .int (nI cd))] := hl
  have hc24 := pz_lt31 hn hc8
  refine lv_aload_n hx hb d_M_bring_0 rfl (lv_at hl 0 rfl) ?_
  refine wz_get (v := .ref (a 1)) (T := T_M) (N := 4) hx hb hts i_M hown hK hP 0 0 rfl rfl rfl 1 (by decide) (hts _ kw_61) rfl rfl d_M_bring_1 ?_
  refine lv_iload_n hx hb d_M_bring_4 rfl (lv_at hl 1 rfl) ?_
  refine wz_aald hx hb hK hP 0 1 (j := u) (r := r) rfl rfl (by omega) (by decide) d_M_bring_5 ?_
  refine lv_astore_n (lv' := [(3, .ref (r u)), (0, .ref (a 0)), (1, .int (nI u)), (2, .int (nI cd))]) hx hb d_M_bring_6 rfl hl (by decide) rfl (fun ls hl => ?_)
  refine lv_iconst (v := nI 0) hx hb d_M_bring_7 (by decide) ?_
  refine lv_istore (lv' := [(4, .int (nI 0)), (3, .ref (r u)), (0, .ref (a 0)), (1, .int (nI u)), (2, .int (nI cd))]) hx hb d_M_bring_8 hl (by decide) rfl (fun ls hl => ?_)
  refine lv_iload_n hx hb d_M_bring_10 rfl (lv_at hl 4 rfl) ?_
  refine lv_istore (lv' := [(5, .int (nI cd)), (4, .int (nI 0)), (3, .ref (r u)), (0, .ref (a 0)), (1, .int (nI u)), (2, .int (nI cd))]) hx hb d_M_bring_11 hl (by decide) rfl (fun ls hl => ?_)
  refine lv_iconst (v := nI 0) hx hb d_M_bring_13 (by decide) ?_
  refine lv_istore (lv' := [(6, .int (nI 0)), (5, .int (nI cd)), (4, .int (nI 0)), (3, .ref (r u)), (0, .ref (a 0)), (1, .int (nI u)), (2, .int (nI cd))]) hx hb d_M_bring_14 hl (by decide) rfl (fun ls hl => ?_)
  have loop : ∀ (d : Nat) (i B : Nat), i ≤ n → n + 1 ≤ i + d → mv_br n cd i tu B → ∀ (H : Heap) (locs : List Loc) (ls : Array Slot), va_P D vwCl ([mv_W q a n k r f, wz_rows 12 r (fun i9 => .inl (q.1, 8, .inl (M i9)))] : wz_G).flatten H → va_D A ([mv_W q a n k r f, wz_rows 12 r (fun i9 => .inl (q.1, 8, .inl (M i9)))] : wz_G).flatten → va_S A s.heap H locs → lv_has ls 7 [(0, .ref (a 0)), (1, .int (nI u)), (2, .int (nI cd)), (3, .ref (r u)), (4, .int (nI B)), (5, .int (nI (cd / 8 ^ i))), (6, .int (nI i))] → W p l e ({ frames := 0, cells := 0, slots := 0, locals := 0 } : Room) s m ([.ref (a 0), .int (nI u), .int (nI cd)] : List Value).toArray below meth c H locs 0 0 (MQ below (va_Qi (po_M_bring q a n k r f M u cd sg tu) (wz_At D q A) A) ([.ref (a 0), .int (nI u), .int (nI cd)] : List Value).toArray s 0 0 A) (F0 m 16 ls []) := by
    intro d
    induction d with
    | zero =>
      intro i B hi hd hB
      omega
    | succ d ih =>
      intro i B hi hd hB H locs ls hP hD hS hl
      refine lv_iload hx hb d_M_bring_16 (lv_at hl 6 rfl) ?_
      refine lv_aload_n hx hb d_M_bring_18 rfl (lv_at hl 0 rfl) ?_
      refine wz_get (v := .int (nI n)) (T := T_M) (N := 4) hx hb hts i_M hown hK hP 0 0 rfl rfl rfl 0 (by decide) (hts _ kw_60) rfl rfl d_M_bring_19 ?_
      refine wz_ge (tgt := 54) hx hb d_M_bring_22 (by decide) (by omega) (by omega) (fun hc2 => ?_) (fun hc2 => ?_)
      · skip
        have hin : i = n := by omega
        subst hin
        refine lv_iload hx hb d_M_bring_54 (lv_at hl 4 rfl) ?_
        exact wz_iret hx hb hr hlocks hK hP hD hS d_M_bring_56 ⟨rfl, by rw [mv_br_e hpm hB hc8]⟩
      · skip
        have hdl := pz_divlt hn hc8 i
        have hsl := (hpm i hc2).1
        refine lv_iload hx hb d_M_bring_25 (lv_at hl 4 rfl) ?_
        refine lv_iload hx hb d_M_bring_27 (lv_at hl 5 rfl) ?_
        refine lv_bipush (v := nI 7) hx hb d_M_bring_29 (by decide) ?_
        refine lv_iand hx hb d_M_bring_31 ?_
        refine wz_topi (y := nI (pz_dg cd i)) (pz_and7 (by omega)) ?_
        refine lv_iconst (v := nI 3) hx hb d_M_bring_32 (by decide) ?_
        refine lv_aload_n hx hb d_M_bring_33 rfl (lv_at hl 3 rfl) ?_
        refine lv_iload hx hb d_M_bring_34 (lv_at hl 6 rfl) ?_
        refine wz_iald hx hb hK hP 1 u (j := i) rfl (wz_rows_get (by omega)) (by omega) (by decide) d_M_bring_36 ?_
        refine wz_topi (y := nI (sg i)) (hs i hc2) ?_
        refine lv_imul hx hb d_M_bring_37 ?_
        refine wz_topi (y := nI (3 * (sg i))) (pk_mul 3 (sg i)) ?_
        refine lv_ishl hx hb d_M_bring_38 ?_
        refine wz_topi (y := nI (pz_dg cd i * 8 ^ sg i)) (pz_shl (pz_dg_lt _ _) (by omega)) ?_
        refine lv_ior hx hb d_M_bring_39 ?_
        refine wz_topi (y := nI (B + pz_dg cd i * 8 ^ sg i)) (mv_or hpm hB hc2) ?_
        refine lv_istore (lv' := [(4, .int (nI (B + pz_dg cd i * 8 ^ sg i))), (0, .ref (a 0)), (1, .int (nI u)), (2, .int (nI cd)), (3, .ref (r u)), (5, .int (nI (cd / 8 ^ i))), (6, .int (nI i))]) hx hb d_M_bring_40 hl (by decide) rfl (fun ls hl => ?_)
        refine lv_iload hx hb d_M_bring_42 (lv_at hl 5 rfl) ?_
        refine lv_iconst (v := nI 3) hx hb d_M_bring_44 (by decide) ?_
        refine lv_iushr (v := nI (cd / 8 ^ (i + 1))) hx hb d_M_bring_45 ((pz_ushr3 (by omega)).trans (congrArg nI (pz_div8 cd i))) ?_
        refine lv_istore (lv' := [(5, .int (nI (cd / 8 ^ (i + 1)))), (4, .int (nI (B + pz_dg cd i * 8 ^ sg i))), (0, .ref (a 0)), (1, .int (nI u)), (2, .int (nI cd)), (3, .ref (r u)), (6, .int (nI i))]) hx hb d_M_bring_46 hl (by decide) rfl (fun ls hl => ?_)
        refine lv_iinc (v := nI (i + 1)) (lv' := [(6, .int (nI (i + 1))), (5, .int (nI (cd / 8 ^ (i + 1)))), (4, .int (nI (B + pz_dg cd i * 8 ^ sg i))), (0, .ref (a 0)), (1, .int (nI u)), (2, .int (nI cd)), (3, .ref (r u))]) hx hb d_M_bring_48 hl (k := 6) rfl (nI_1 i) (by decide) rfl (fun ls hl => ?_)
        refine lv_goto (tgt := 16) hx hb d_M_bring_51 (by decide) ?_
        exact ih (i + 1) (B + pz_dg cd i * 8 ^ sg i) (by omega) (by omega) (mv_br_s hpm hB hc2) _ _ _ hP hD hS (lv_sub hl [3, 4, 5, 6, 2, 1, 0] rfl)
  have e0 : nI cd = nI (cd / 8 ^ 0) := by rw [Nat.pow_zero, Nat.div_one]
  exact loop (n + 1) 0 0 (by omega) (by omega) (mv_br_0 n cd tu) _ _ _ hP hD hS (by have h9 := lv_sub hl [4, 5, 6, 3, 2, 1, 0] rfl; rw [show nI (cd / 8 ^ 0) = nI cd by rw [Nat.pow_zero, Nat.div_one]]; exact h9)
def po_X_firstState (q : wz_Q) (n : Nat) : Int32 → wz_G → Prop := fun v w => w = [] ∧ v = nI (pz_first n)
set_option maxHeartbeats 4000000 in
set_option maxRecDepth 100000 in
/-- label p at place p -/
theorem c_X_firstState (l : Launch) (D : va_G) (q : wz_Q) (n : Nat) (hn : n ≤ 8) : wz_Mi l y_X_firstState ws_X_firstState ({ frames := 0, cells := 0, slots := 0, locals := 0 } : Room) D q ([.int (nI n)] : List Value) [] (po_X_firstState q n) 0 0 := by
  intro sz9
  refine wz_enter (cc := b_X_firstState) (maxL := 3) (ret := (some .int)) (Qc := fun A => (va_Qi (po_X_firstState q n) (wz_At D q A) A)) (by decide) (Nat.le_of_ble_eq_true rfl) ?_
  intro p e s m below meth c A ls C hP hD hS hl
  obtain ⟨hx, hb, hr, hml, hlocks, hown, hts, hN, hK, hA, hnm⟩ := C
  have hown : s.vm.findClass "TwoEndSearch" = some m.cls := hown
  have hl : lv_has ls 3 [(0, .int (nI n))] := hl
  refine lv_iconst (v := nI 0) hx hb d_X_firstState_0 (by decide) ?_
  refine lv_istore_n (lv' := [(1, .int (nI 0)), (0, .int (nI n))]) hx hb d_X_firstState_1 rfl hl (by decide) rfl (fun ls hl => ?_)
  refine lv_iconst (v := nI 0) hx hb d_X_firstState_2 (by decide) ?_
  refine lv_istore_n (lv' := [(2, .int (nI 0)), (1, .int (nI 0)), (0, .int (nI n))]) hx hb d_X_firstState_3 rfl hl (by decide) rfl (fun ls hl => ?_)
  have loop : ∀ (d : Nat) (i : Nat), i ≤ n → n + 1 ≤ i + d → ∀ (H : Heap) (locs : List Loc) (ls : Array Slot), va_P D vwCl ([] : wz_G).flatten H → va_D A ([] : wz_G).flatten → va_S A s.heap H locs → lv_has ls 3 [(0, .int (nI n)), (1, .int (nI (pz_first i))), (2, .int (nI i))] → W p l e ({ frames := 0, cells := 0, slots := 0, locals := 0 } : Room) s m ([.int (nI n)] : List Value).toArray below meth c H locs 0 0 (MQ below (va_Qi (po_X_firstState q n) (wz_At D q A) A) ([.int (nI n)] : List Value).toArray s 0 0 A) (F0 m 4 ls []) := by
    intro d
    induction d with
    | zero =>
      intro i hi hd
      omega
    | succ d ih =>
      intro i hi hd H locs ls hP hD hS hl
      refine lv_iload_n hx hb d_X_firstState_4 rfl (lv_at hl 2 rfl) ?_
      refine lv_iload_n hx hb d_X_firstState_5 rfl (lv_at hl 0 rfl) ?_
      refine wz_ge (tgt := 23) hx hb d_X_firstState_6 (by decide) (by omega) (by omega) (fun hc2 => ?_) (fun hc2 => ?_)
      · skip
        have hin : i = n := by omega
        subst hin
        refine lv_iload_n hx hb d_X_firstState_23 rfl (lv_at hl 1 rfl) ?_
        exact wz_iret hx hb hr hlocks hK hP hD hS d_X_firstState_24 ⟨rfl, rfl⟩
      · skip
        refine lv_iload_n hx hb d_X_firstState_9 rfl (lv_at hl 1 rfl) ?_
        refine lv_iload_n hx hb d_X_firstState_10 rfl (lv_at hl 2 rfl) ?_
        refine lv_iconst (v := nI 3) hx hb d_X_firstState_11 (by decide) ?_
        refine lv_iload_n hx hb d_X_firstState_12 rfl (lv_at hl 2 rfl) ?_
        refine lv_imul hx hb d_X_firstState_13 ?_
        refine wz_topi (y := nI (3 * i)) (pk_mul 3 i) ?_
        refine lv_ishl hx hb d_X_firstState_14 ?_
        refine wz_topi (y := nI (i * 8 ^ i)) (pz_shl (by omega) (by omega)) ?_
        refine lv_ior hx hb d_X_firstState_15 ?_
        refine wz_topi (y := nI (pz_first (i + 1))) ((pz_nI_or _ _).trans (congrArg nI (pz_first_or (by omega)))) ?_
        refine lv_istore_n (lv' := [(1, .int (nI (pz_first (i + 1)))), (0, .int (nI n)), (2, .int (nI i))]) hx hb d_X_firstState_16 rfl hl (by decide) rfl (fun ls hl => ?_)
        refine lv_iinc (v := nI (i + 1)) (lv' := [(2, .int (nI (i + 1))), (1, .int (nI (pz_first (i + 1)))), (0, .int (nI n))]) hx hb d_X_firstState_17 hl (k := 2) rfl (nI_1 i) (by decide) rfl (fun ls hl => ?_)
        refine lv_goto (tgt := 4) hx hb d_X_firstState_20 (by decide) ?_
        exact ih (i + 1) (by omega) (by omega) _ _ _ hP hD hS (lv_sub hl [2, 1, 0] rfl)
  exact loop (n + 1) 0 (by omega) (by omega) _ _ _ hP hD hS (lv_sub hl [2, 1, 0] rfl)
def po_M_countOrder (q : wz_Q) (a : Nat → Nat) (n k : Nat) (r : Nat → Nat) (f : Nat → Int32) (M : Nat → Nat → Int32) (o : Nat) (sg tu : Nat → Nat) : Int32 → wz_G → Prop := fun v w => w = [mv_W q a n k r f, wz_rows 12 r (fun i9 => .inl (q.1, 8, .inl (M i9)))] ∧ ∃ o', v = nI o' ∧ pz_od n sg o'
set_option maxHeartbeats 4000000 in
set_option maxRecDepth 100000 in
/-- a move's order, counted -/
theorem c_M_countOrder (l : Launch) (D : va_G) (q : wz_Q) (a : Nat → Nat) (n k : Nat) (r : Nat → Nat) (f : Nat → Int32) (M : Nat → Nat → Int32) (o : Nat) (sg tu : Nat → Nat) (hn : n ≤ 8) (ho : o < 6) (hs : ∀ p, p < n → M o p = nI (sg p)) (hpm : pz_perm n sg tu) : wz_Mi l y_M_countOrder ws_M_countOrder ({ frames := 1, cells := 0, slots := 0, locals := 26 } : Room) D q ([.ref (a 0), .int (nI o)] : List Value) [mv_W q a n k r f, wz_rows 12 r (fun i9 => .inl (q.1, 8, .inl (M i9)))] (po_M_countOrder q a n k r f M o sg tu) 0 0 := by
  intro sz9
  refine wz_enter (cc := b_M_countOrder) (maxL := 5) (ret := (some .int)) (Qc := fun A => (va_Qi (po_M_countOrder q a n k r f M o sg tu) (wz_At D q A) A)) (by decide) (Nat.le_of_ble_eq_true rfl) ?_
  intro p e s m below meth c A ls C hP hD hS hl
  obtain ⟨hx, hb, hr, hml, hlocks, hown, hts, hN, hK, hA, hnm⟩ := C
  have hown : s.vm.findClass "TwoEndSearch$Moves" = some m.cls := hown
  have hl : lv_has ls 5 [(0, .ref (a 0)), (1, .int (nI o))] := hl
  refine lv_aload_n hx hb d_M_countOrder_0 rfl (lv_at hl 0 rfl) ?_
  refine wz_get (v := .int (nI n)) (T := T_M) (N := 4) hx hb hts i_M hown hK hP 0 0 rfl rfl rfl 0 (by decide) (hts _ kw_60) rfl rfl d_M_countOrder_1 ?_
  have hQ := wz_split (n := 2) (gc := []) (gr := [mv_W q a n k r f, wz_rows 12 r (fun i9 => .inl (q.1, 8, .inl (M i9)))]) [] [0, 1] rfl (by decide) rfl rfl hP hD
  refine wz_calli (va_runSN (As := [.int (nI n)]) (rest := []) ⟨hx, hb, hml, hown, hts⟩ (c_X_firstState l D q n hn _) ⟨va_cnB 1 hts (wz_good kw_79) rfl rfl rfl (hN.1 _ (List.mem_of_getElem? (i := 18) rfl)) (hts _ kw_30) (by decide +kernel) ⟨Nat.le_of_ble_eq_true rfl, Nat.le_of_ble_eq_true rfl⟩, hts _ kw_78, trivial⟩ (wz_preS hN hK hQ wz_L_ok) rfl rfl hl.1 rfl (lv_room (Nat.le_of_ble_eq_true rfl)) d_M_countOrder_4 ⟨Nat.le_of_ble_eq_true rfl, Nat.le_of_ble_eq_true rfl⟩) hQ hS hA (fun v_4 gx H locs hp hP hD hS => ?_)
  obtain ⟨rfl, rfl⟩ := hp
  obtain ⟨hP, hD⟩ := wz_ord (n := 2) (gs' := [mv_W q a n k r f, wz_rows 12 r (fun i9 => .inl (q.1, 8, .inl (M i9)))]) [0, 1] rfl (by decide) rfl hP hD
  have hF := pz_lt31 hn (pz_first_lt hn)
  refine lv_istore_n (lv' := [(2, .int (nI (pz_first n))), (0, .ref (a 0)), (1, .int (nI o))]) hx hb d_M_countOrder_7 rfl hl (by decide) rfl (fun ls hl => ?_)
  refine lv_iload_n hx hb d_M_countOrder_8 rfl (lv_at hl 0 rfl) ?_
  refine lv_istore_n (lv' := [(3, .int (nI (pz_first n))), (2, .int (nI (pz_first n))), (0, .ref (a 0)), (1, .int (nI o))]) hx hb d_M_countOrder_9 rfl hl (by decide) rfl (fun ls hl => ?_)
  refine lv_iconst (v := nI 1) hx hb d_M_countOrder_10 (by decide) ?_
  refine lv_istore (lv' := [(4, .int (nI 1)), (3, .int (nI (pz_first n))), (2, .int (nI (pz_first n))), (0, .ref (a 0)), (1, .int (nI o))]) hx hb d_M_countOrder_11 hl (by decide) rfl (fun ls hl => ?_)
  have loop : ∀ (d : Nat) (j : Nat), j ≤ 14 → 15 ≤ j + d → (∀ i, 0 < i → i < j + 1 → pz_it (pz_act n tu) i (pz_first n) ≠ pz_first n) → ∀ (H : Heap) (locs : List Loc) (ls : Array Slot), va_P D vwCl ([mv_W q a n k r f, wz_rows 12 r (fun i9 => .inl (q.1, 8, .inl (M i9)))] : wz_G).flatten H → va_D A ([mv_W q a n k r f, wz_rows 12 r (fun i9 => .inl (q.1, 8, .inl (M i9)))] : wz_G).flatten → va_S A s.heap H locs → lv_has ls 5 [(0, .ref (a 0)), (1, .int (nI o)), (2, .int (nI (pz_first n))), (3, .int (nI (pz_it (pz_act n tu) j (pz_first n)))), (4, .int (nI (j + 1)))] → W p l e ({ frames := 1, cells := 0, slots := 0, locals := 26 } : Room) s m ([.ref (a 0), .int (nI o)] : List Value).toArray below meth c H locs 0 0 (MQ below (va_Qi (po_M_countOrder q a n k r f M o sg tu) (wz_At D q A) A) ([.ref (a 0), .int (nI o)] : List Value).toArray s 0 0 A) (F0 m 13 ls []) := by
    intro d
    induction d with
    | zero =>
      intro j hj hd hno
      omega
    | succ d ih =>
      intro j hj hd hno H locs ls hP hD hS hl
      refine lv_iload hx hb d_M_countOrder_13 (lv_at hl 4 rfl) ?_
      refine lv_bipush (v := nI 15) hx hb d_M_countOrder_15 (by decide) ?_
      refine wz_ge (tgt := 41) hx hb d_M_countOrder_17 (by decide) (by omega) (by omega) (fun hc2 => ?_) (fun hc2 => ?_)
      · skip
        refine lv_bipush (v := nI 15) hx hb d_M_countOrder_41 (by decide) ?_
        exact wz_iret hx hb hr hlocks hK hP hD hS d_M_countOrder_43 ⟨rfl, 15, rfl, mv_od_15 hn hpm (fun i h0 h1 => hno i h0 (by omega))⟩
      · skip
        refine lv_aload_n hx hb d_M_countOrder_20 rfl (lv_at hl 0 rfl) ?_
        refine lv_iload_n hx hb d_M_countOrder_21 rfl (lv_at hl 1 rfl) ?_
        refine lv_iload_n hx hb d_M_countOrder_22 rfl (lv_at hl 3 rfl) ?_
        have hQ := wz_split (n := 2) (gc := [mv_W q a n k r f, wz_rows 12 r (fun i9 => .inl (q.1, 8, .inl (M i9)))]) (gr := []) [0, 1] [] rfl (by decide) rfl rfl hP hD
        refine wz_calli (va_runV (As := [.int (nI o), .int (nI (pz_it (pz_act n tu) j (pz_first n)))]) (rest := []) ⟨hx, hb, hml, hown, hts⟩ (c_M_bring l D q a n k r f M o (pz_it (pz_act n tu) j (pz_first n)) sg tu hn (by omega) (pz_it_act (fun p hp => (hpm p hp).2.1) (pz_first_lt hn) j).1 hs hpm _) (cwV 2 hts (wz_goodV kw_267 kw_268 kw_269 kw_32 kw_270) rfl rfl rfl (by decide +kernel) ⟨Nat.le_of_ble_eq_true rfl, Nat.le_of_ble_eq_true rfl⟩) (wz_preV (gi := 0) (k := 0) hN hK hQ wz_L_ok rfl rfl rfl) rfl rfl hl.1 rfl (lv_room (Nat.le_of_ble_eq_true rfl)) d_M_countOrder_23 ⟨Nat.le_of_ble_eq_true rfl, Nat.le_of_ble_eq_true rfl⟩) hQ hS hA (fun v_23 gx H locs hp hP hD hS => ?_)
        obtain ⟨rfl, rfl⟩ := hp
        obtain ⟨hP, hD⟩ := wz_ord (n := 2) (gs' := [mv_W q a n k r f, wz_rows 12 r (fun i9 => .inl (q.1, 8, .inl (M i9)))]) [0, 1] rfl (by decide) rfl hP hD
        have hX := pz_lt31 hn (pz_it_act (fun p hp => (hpm p hp).2.1) (pz_first_lt hn) (j + 1)).1
        refine wz_topi (y := nI (pz_it (pz_act n tu) (j + 1) (pz_first n))) rfl ?_
        refine lv_istore_n (lv' := [(3, .int (nI (pz_it (pz_act n tu) (j + 1) (pz_first n)))), (0, .ref (a 0)), (1, .int (nI o)), (2, .int (nI (pz_first n))), (4, .int (nI (j + 1)))]) hx hb d_M_countOrder_26 rfl hl (by decide) rfl (fun ls hl => ?_)
        refine lv_iload_n hx hb d_M_countOrder_27 rfl (lv_at hl 0 rfl) ?_
        refine lv_iload_n hx hb d_M_countOrder_28 rfl (lv_at hl 3 rfl) ?_
        refine wz_ne (tgt := 35) hx hb d_M_countOrder_29 (by decide) (by omega) (by omega) (fun hc3 => ?_) (fun hc3 => ?_)
        · skip
          refine lv_iinc (v := nI ((j + 1) + 1)) (lv' := [(4, .int (nI ((j + 1) + 1))), (3, .int (nI (pz_it (pz_act n tu) (j + 1) (pz_first n)))), (0, .ref (a 0)), (1, .int (nI o)), (2, .int (nI (pz_first n)))]) hx hb d_M_countOrder_35 hl (k := 4) rfl (nI_1 (j + 1)) (by decide) rfl (fun ls hl => ?_)
          refine lv_goto (tgt := 13) hx hb d_M_countOrder_38 (by decide) ?_
          exact ih (j + 1) (by omega) (by omega) (fun i h0 h1 => by by_cases e : i = j + 1; (subst e; exact hc3); exact hno i h0 (by omega)) _ _ _ hP hD hS (lv_sub hl [2, 3, 4, 1, 0] rfl)
        · skip
          refine lv_iload hx hb d_M_countOrder_32 (lv_at hl 4 rfl) ?_
          exact wz_iret hx hb hr hlocks hK hP hD hS d_M_countOrder_34 ⟨rfl, j + 1, rfl, mv_od_at hn hpm (by omega) (by omega) hc3 hno⟩
  exact loop 15 0 (by omega) (by omega) (fun i h0 h1 => absurd h1 (by omega)) _ _ _ hP hD hS (lv_sub hl [3, 4, 2, 1, 0] rfl)
def po_M_lengthen (q : wz_Q) (a : Nat → Nat) (n k : Nat) (r : Nat → Nat) (f : Nat → Int32) (M : Nat → Nat → Int32) (x y z : Int32) (sg tu : Nat → Nat → Nat) (od : Nat → Nat) : Int32 → wz_G → Prop := fun v w => (v = 0 ∧ w = [mv_W q a n k r f, wz_rows 12 r (fun i9 => .inl (q.1, 8, .inl (M i9)))] ∧ ¬ ∃ mo fr t, mv_can n k sg x y z mo fr t) ∨ (v = 1 ∧ ∃ (mo fr t o' : Nat) (f' : Nat → Int32) (M' : Nat → Nat → Int32), mv_can n k sg x y z mo fr t ∧ pz_od n (pz_cyc (sg mo) fr t) o' ∧ w = [mv_W q a n k r f', wz_rows 12 r (fun i9 => .inl (q.1, 8, .inl (M' i9)))] ∧ mv_ok n k f' M' (pz_up sg mo (pz_cyc (sg mo) fr t)) (pz_up tu mo (pz_cyi (sg mo) (tu mo) fr t)) (pz_up od mo o'))
set_option maxHeartbeats 4000000 in
set_option maxRecDepth 100000 in
/-- a move is lengthened -/
theorem c_M_lengthen (l : Launch) (D : va_G) (q : wz_Q) (a : Nat → Nat) (n k : Nat) (r : Nat → Nat) (f : Nat → Int32) (M : Nat → Nat → Int32) (x y z : Int32) (sg tu : Nat → Nat → Nat) (od : Nat → Nat) (hn : n ≤ 8) (hk : k ≤ 6) (hok : mv_ok n k f M sg tu od) : wz_Mi l y_M_lengthen ws_M_lengthen ({ frames := 2, cells := 0, slots := 0, locals := 50 } : Room) D q ([.ref (a 0), .int x, .int y, .int z] : List Value) [mv_W q a n k r f, wz_rows 12 r (fun i9 => .inl (q.1, 8, .inl (M i9)))] (po_M_lengthen q a n k r f M x y z sg tu od) 0 0 := by
  intro sz9
  refine wz_enter (cc := b_M_lengthen) (maxL := 5) (ret := (some .boolean)) (Qc := fun A => (va_Qi (po_M_lengthen q a n k r f M x y z sg tu od) (wz_At D q A) A)) (by decide) (Nat.le_of_ble_eq_true rfl) ?_
  intro p e s m below meth c A ls C hP hD hS hl
  obtain ⟨hx, hb, hr, hml, hlocks, hown, hts, hN, hK, hA, hnm⟩ := C
  have hown : s.vm.findClass "TwoEndSearch$Moves" = some m.cls := hown
  have hl : lv_has ls 5 [(0, .ref (a 0)), (1, .int x), (2, .int y), (3, .int z)] := hl
  refine lv_aload_n hx hb d_M_lengthen_0 rfl (lv_at hl 0 rfl) ?_
  refine lv_iload_n hx hb d_M_lengthen_1 rfl (lv_at hl 1 rfl) ?_
  have hQ := wz_split (n := 2) (gc := [mv_W q a n k r f]) (gr := [wz_rows 12 r (fun i9 => .inl (q.1, 8, .inl (M i9)))]) [0] [1] rfl (by decide) rfl rfl hP hD
  refine wz_calli (va_runV (As := [.int x]) (rest := []) ⟨hx, hb, hml, hown, hts⟩ (c_M_has l D q a n k r f x hk _) (cwV 1 hts (wz_goodV kw_254 kw_255 kw_256 kw_32 kw_257) rfl rfl rfl (by decide +kernel) ⟨Nat.le_of_ble_eq_true rfl, Nat.le_of_ble_eq_true rfl⟩) (wz_preV (gi := 0) (k := 0) hN hK hQ wz_L_ok rfl rfl rfl) rfl rfl hl.1 rfl (lv_room (Nat.le_of_ble_eq_true rfl)) d_M_lengthen_2 ⟨Nat.le_of_ble_eq_true rfl, Nat.le_of_ble_eq_true rfl⟩) hQ hS hA (fun v_2 gx H locs hp0 hP hD hS => ?_)
  obtain ⟨rfl, hp0⟩ := hp0
  obtain ⟨hP, hD⟩ := wz_ord (n := 2) (gs' := [mv_W q a n k r f, wz_rows 12 r (fun i9 => .inl (q.1, 8, .inl (M i9)))]) [0, 1] rfl (by decide) rfl hP hD
  refine lv_if_eq (tgt := 29) hx hb d_M_lengthen_5 (by decide) (fun hc => ?_) (fun hc => ?_)
  · skip
    refine lv_iconst (v := nI 0) hx hb d_M_lengthen_29 (by decide) ?_
    exact wz_zret hx hb hr hlocks hK hP hD hS d_M_lengthen_30 (by first | exact Or.inl rfl | exact Or.inr rfl) (Or.inl ⟨rfl, rfl, fun ⟨mo, fr, t, q⟩ => wz_bit_0 hp0 hc ⟨mo, q.1, q.2.2.2.1⟩⟩)
  · skip
    obtain ⟨mo, hmo, rfl⟩ := wz_bit_1 hp0 hc
    refine lv_aload_n hx hb d_M_lengthen_8 rfl (lv_at hl 0 rfl) ?_
    refine lv_iload_n hx hb d_M_lengthen_9 rfl (lv_at hl 2 rfl) ?_
    have hQ := wz_split (n := 2) (gc := [mv_W q a n k r f]) (gr := [wz_rows 12 r (fun i9 => .inl (q.1, 8, .inl (M i9)))]) [0] [1] rfl (by decide) rfl rfl hP hD
    refine wz_calli (va_runV (As := [.int y]) (rest := []) ⟨hx, hb, hml, hown, hts⟩ (c_M_isPlace l D q a n k r f y hn _) (cwV 1 hts (wz_goodV kw_258 kw_260 kw_2 kw_32 kw_261) rfl rfl rfl (by decide +kernel) ⟨Nat.le_of_ble_eq_true rfl, Nat.le_of_ble_eq_true rfl⟩) (wz_preV (gi := 0) (k := 0) hN hK hQ wz_L_ok rfl rfl rfl) rfl rfl hl.1 rfl (lv_room (Nat.le_of_ble_eq_true rfl)) d_M_lengthen_10 ⟨Nat.le_of_ble_eq_true rfl, Nat.le_of_ble_eq_true rfl⟩) hQ hS hA (fun v_10 gx H locs hp1 hP hD hS => ?_)
    obtain ⟨rfl, hp1⟩ := hp1
    obtain ⟨hP, hD⟩ := wz_ord (n := 2) (gs' := [mv_W q a n k r f, wz_rows 12 r (fun i9 => .inl (q.1, 8, .inl (M i9)))]) [0, 1] rfl (by decide) rfl hP hD
    refine lv_if_eq (tgt := 29) hx hb d_M_lengthen_13 (by decide) (fun hc1 => ?_) (fun hc1 => ?_)
    · skip
      refine lv_iconst (v := nI 0) hx hb d_M_lengthen_29 (by decide) ?_
      exact wz_zret hx hb hr hlocks hK hP hD hS d_M_lengthen_30 (by first | exact Or.inl rfl | exact Or.inr rfl) (Or.inl ⟨rfl, rfl, fun ⟨mo, fr, t, q⟩ => wz_bit_0 hp1 hc1 ⟨fr, q.2.1, q.2.2.2.2.1⟩⟩)
    · skip
      obtain ⟨fr, hfr, rfl⟩ := wz_bit_1 hp1 hc1
      refine lv_aload_n hx hb d_M_lengthen_16 rfl (lv_at hl 0 rfl) ?_
      refine lv_iload_n hx hb d_M_lengthen_17 rfl (lv_at hl 3 rfl) ?_
      have hQ := wz_split (n := 2) (gc := [mv_W q a n k r f]) (gr := [wz_rows 12 r (fun i9 => .inl (q.1, 8, .inl (M i9)))]) [0] [1] rfl (by decide) rfl rfl hP hD
      refine wz_calli (va_runV (As := [.int z]) (rest := []) ⟨hx, hb, hml, hown, hts⟩ (c_M_isPlace l D q a n k r f z hn _) (cwV 1 hts (wz_goodV kw_258 kw_260 kw_2 kw_32 kw_261) rfl rfl rfl (by decide +kernel) ⟨Nat.le_of_ble_eq_true rfl, Nat.le_of_ble_eq_true rfl⟩) (wz_preV (gi := 0) (k := 0) hN hK hQ wz_L_ok rfl rfl rfl) rfl rfl hl.1 rfl (lv_room (Nat.le_of_ble_eq_true rfl)) d_M_lengthen_18 ⟨Nat.le_of_ble_eq_true rfl, Nat.le_of_ble_eq_true rfl⟩) hQ hS hA (fun v_18 gx H locs hp2 hP hD hS => ?_)
      obtain ⟨rfl, hp2⟩ := hp2
      obtain ⟨hP, hD⟩ := wz_ord (n := 2) (gs' := [mv_W q a n k r f, wz_rows 12 r (fun i9 => .inl (q.1, 8, .inl (M i9)))]) [0, 1] rfl (by decide) rfl hP hD
      refine lv_if_eq (tgt := 29) hx hb d_M_lengthen_21 (by decide) (fun hc2 => ?_) (fun hc2 => ?_)
      · skip
        refine lv_iconst (v := nI 0) hx hb d_M_lengthen_29 (by decide) ?_
        exact wz_zret hx hb hr hlocks hK hP hD hS d_M_lengthen_30 (by first | exact Or.inl rfl | exact Or.inr rfl) (Or.inl ⟨rfl, rfl, fun ⟨mo, fr, t, q⟩ => wz_bit_0 hp2 hc2 ⟨t, q.2.2.1, q.2.2.2.2.2.1⟩⟩)
      · skip
        obtain ⟨t, ht, rfl⟩ := wz_bit_1 hp2 hc2
        have hO := hok mo hmo
        have hst := (hO.1 t ht).1
        have hsf := (hO.1 fr hfr).1
        refine lv_iload_n hx hb d_M_lengthen_24 rfl (lv_at hl 2 rfl) ?_
        refine lv_iload_n hx hb d_M_lengthen_25 rfl (lv_at hl 3 rfl) ?_
        refine wz_ne (tgt := 31) hx hb d_M_lengthen_26 (by decide) (by omega) (by omega) (fun hc3 => ?_) (fun hc3 => ?_)
        · skip
          refine lv_aload_n hx hb d_M_lengthen_31 rfl (lv_at hl 0 rfl) ?_
          refine wz_get (v := .ref (a 1)) (T := T_M) (N := 4) hx hb hts i_M hown hK hP 0 0 rfl rfl rfl 1 (by decide) (hts _ kw_61) rfl rfl d_M_lengthen_32 ?_
          refine lv_iload_n hx hb d_M_lengthen_35 rfl (lv_at hl 1 rfl) ?_
          refine wz_aald hx hb hK hP 0 1 (j := mo) (r := r) rfl rfl (by omega) (by decide) d_M_lengthen_36 ?_
          refine lv_iload_n hx hb d_M_lengthen_37 rfl (lv_at hl 3 rfl) ?_
          refine wz_iald hx hb hK hP 1 mo (j := t) rfl (wz_rows_get (by omega)) (by omega) (by decide) d_M_lengthen_38 ?_
          refine wz_topi (y := nI (sg mo t)) (hO.2.2.2 t ht).1 ?_
          refine lv_iload_n hx hb d_M_lengthen_39 rfl (lv_at hl 3 rfl) ?_
          refine wz_eq (tgt := 45) hx hb d_M_lengthen_40 (by decide) (by omega) (by omega) (fun hc4 => ?_) (fun hc4 => ?_)
          · skip
            refine lv_aload_n hx hb d_M_lengthen_45 rfl (lv_at hl 0 rfl) ?_
            refine wz_get (v := .ref (a 1)) (T := T_M) (N := 4) hx hb hts i_M hown hK hP 0 0 rfl rfl rfl 1 (by decide) (hts _ kw_61) rfl rfl d_M_lengthen_46 ?_
            refine lv_iload_n hx hb d_M_lengthen_49 rfl (lv_at hl 1 rfl) ?_
            refine wz_aald hx hb hK hP 0 1 (j := mo) (r := r) rfl rfl (by omega) (by decide) d_M_lengthen_50 ?_
            refine lv_iload_n hx hb d_M_lengthen_51 rfl (lv_at hl 2 rfl) ?_
            refine wz_iald hx hb hK hP 1 mo (j := fr) rfl (wz_rows_get (by omega)) (by omega) (by decide) d_M_lengthen_52 ?_
            refine wz_topi (y := nI (sg mo fr)) (hO.2.2.2 fr hfr).1 ?_
            refine lv_istore (lv' := [(4, .int (nI (sg mo fr))), (0, .ref (a 0)), (1, .int (nI mo)), (2, .int (nI fr)), (3, .int (nI t))]) hx hb d_M_lengthen_53 hl (by decide) rfl (fun ls hl => ?_)
            refine lv_aload_n hx hb d_M_lengthen_55 rfl (lv_at hl 1 rfl) ?_
            refine lv_iload_n hx hb d_M_lengthen_56 rfl (lv_at hl 2 rfl) ?_
            refine lv_iload_n hx hb d_M_lengthen_57 rfl (lv_at hl 3 rfl) ?_
            refine lv_iload_n hx hb d_M_lengthen_58 rfl (lv_at hl 4 rfl) ?_
            have hQ := wz_split (n := 2) (gc := [mv_W q a n k r f, wz_rows 12 r (fun i9 => .inl (q.1, 8, .inl (M i9)))]) (gr := []) [0, 1] [] rfl (by decide) rfl rfl hP hD
            refine wz_callv (va_runV (As := [.int (nI mo), .int (nI fr), .int (nI t)]) (rest := []) ⟨hx, hb, hml, hown, hts⟩ (c_M_aim l D q a n k r f M mo fr t (by omega) (by omega) (by omega) _) (cwV 3 hts (wz_goodV kw_234 kw_236 kw_0 kw_32 kw_237) rfl rfl rfl (by decide +kernel) ⟨Nat.le_of_ble_eq_true rfl, Nat.le_of_ble_eq_true rfl⟩) (wz_preV (gi := 0) (k := 0) hN hK hQ wz_L_ok rfl rfl rfl) rfl rfl hl.1 rfl (lv_room (Nat.le_of_ble_eq_true rfl)) d_M_lengthen_59 ⟨Nat.le_of_ble_eq_true rfl, Nat.le_of_ble_eq_true rfl⟩) hQ hS hA (fun gx H locs hp hP hD hS => ?_)
            have hp : gx = _ := hp
            subst hp
            obtain ⟨hP, hD⟩ := wz_ord (n := 2) (gs' := [mv_W q a n k r f, wz_rows 12 r (fun i9 => .inl (q.1, 8, .inl ((mv_aim M mo fr t) i9)))]) [0, 1] rfl (by decide) rfl hP hD
            refine lv_aload_n hx hb d_M_lengthen_62 rfl (lv_at hl 1 rfl) ?_
            refine lv_iload_n hx hb d_M_lengthen_63 rfl (lv_at hl 2 rfl) ?_
            refine lv_iload_n hx hb d_M_lengthen_64 rfl (lv_at hl 4 rfl) ?_
            refine lv_iload hx hb d_M_lengthen_65 (lv_at hl 0 rfl) ?_
            have hQ := wz_split (n := 2) (gc := [mv_W q a n k r f, wz_rows 12 r (fun i9 => .inl (q.1, 8, .inl ((mv_aim M mo fr t) i9)))]) (gr := []) [0, 1] [] rfl (by decide) rfl rfl hP hD
            refine wz_callv (va_runV (As := [.int (nI mo), .int (nI t), .int (nI (sg mo fr))]) (rest := []) ⟨hx, hb, hml, hown, hts⟩ (c_M_aim l D q a n k r f (mv_aim M mo fr t) mo t (sg mo fr) (by omega) (by omega) (by omega) _) (cwV 3 hts (wz_goodV kw_234 kw_236 kw_0 kw_32 kw_237) rfl rfl rfl (by decide +kernel) ⟨Nat.le_of_ble_eq_true rfl, Nat.le_of_ble_eq_true rfl⟩) (wz_preV (gi := 0) (k := 0) hN hK hQ wz_L_ok rfl rfl rfl) rfl rfl hl.1 rfl (lv_room (Nat.le_of_ble_eq_true rfl)) d_M_lengthen_67 ⟨Nat.le_of_ble_eq_true rfl, Nat.le_of_ble_eq_true rfl⟩) hQ hS hA (fun gx H locs hp hP hD hS => ?_)
            have hp : gx = _ := hp
            subst hp
            obtain ⟨hP, hD⟩ := wz_ord (n := 2) (gs' := [mv_W q a n k r f, wz_rows 12 r (fun i9 => .inl (q.1, 8, .inl ((mv_aim (mv_aim M mo fr t) mo t (sg mo fr)) i9)))]) [0, 1] rfl (by decide) rfl hP hD
            obtain ⟨o', ho'⟩ := pz_od_ex (pz_cyc_ok hO.1 hfr ht hc3 hc4) hn
            have hok2 := mv_ok_len hk hok hmo hfr ht hc3 hc4 ho'
            have hO2 := hok2 mo hmo
            rw [pz_up_s, pz_up_s, pz_up_s, pk_us] at hO2
            refine lv_aload_n hx hb d_M_lengthen_70 rfl (lv_at hl 1 rfl) ?_
            refine wz_get (v := .ref (a 2)) (T := T_M) (N := 4) hx hb hts i_M hown hK hP 0 0 rfl rfl rfl 2 (by decide) (hts _ kw_62) rfl rfl d_M_lengthen_71 ?_
            refine lv_iload_n hx hb d_M_lengthen_74 rfl (lv_at hl 2 rfl) ?_
            refine lv_aload_n hx hb d_M_lengthen_75 rfl (lv_at hl 1 rfl) ?_
            refine lv_iload_n hx hb d_M_lengthen_76 rfl (lv_at hl 2 rfl) ?_
            have hQ := wz_split (n := 2) (gc := [mv_W q a n k r f, wz_rows 12 r (fun i9 => .inl (q.1, 8, .inl ((mv_aim (mv_aim M mo fr t) mo t (sg mo fr)) i9)))]) (gr := []) [0, 1] [] rfl (by decide) rfl rfl hP hD
            refine wz_calli (va_runV (As := [.int (nI mo)]) (rest := [.int (nI mo), .ref (a 2)]) ⟨hx, hb, hml, hown, hts⟩ (c_M_countOrder l D q a n k r f (mv_aim (mv_aim M mo fr t) mo t (sg mo fr)) mo (pz_cyc (sg mo) fr t) (pz_cyi (sg mo) (tu mo) fr t) hn (by omega) (fun p hp => (hO2.2.2.2 p hp).1) hO2.1 _) (cwV 1 hts (wz_goodV kw_262 kw_264 kw_3 kw_32 kw_265) rfl rfl rfl (by decide +kernel) ⟨Nat.le_of_ble_eq_true rfl, Nat.le_of_ble_eq_true rfl⟩) (wz_preV (gi := 0) (k := 0) hN hK hQ wz_L_ok rfl rfl rfl) rfl rfl hl.1 rfl (lv_room (Nat.le_of_ble_eq_true rfl)) d_M_lengthen_77 ⟨Nat.le_of_ble_eq_true rfl, Nat.le_of_ble_eq_true rfl⟩) hQ hS hA (fun v_77 gx H locs hp hP hD hS => ?_)
            obtain ⟨rfl, o2, rfl, ho2⟩ := hp
            obtain rfl : o2 = o' := pz_od_eq ho2 ho'
            obtain ⟨hP, hD⟩ := wz_ord (n := 2) (gs' := [mv_W q a n k r f, wz_rows 12 r (fun i9 => .inl (q.1, 8, .inl ((mv_aim (mv_aim M mo fr t) mo t (sg mo fr)) i9)))]) [0, 1] rfl (by decide) rfl hP hD
            refine wz_iast (gs' := [mv_W q a n k r (upd f mo (nI o2)), wz_rows 12 r (fun i9 => .inl (q.1, 8, .inl ((mv_aim (mv_aim M mo fr t) mo t (sg mo fr)) i9)))]) hx hb hK hP hD hS 0 2 (j := mo) rfl rfl (by omega) (by decide) d_M_lengthen_80 rfl (fun H locs hP hD hS => ?_)
            refine lv_iconst (v := nI 1) hx hb d_M_lengthen_81 (by decide) ?_
            exact wz_zret hx hb hr hlocks hK hP hD hS d_M_lengthen_82 (by first | exact Or.inl rfl | exact Or.inr rfl) (Or.inr ⟨rfl, mo, fr, t, o2, _, _, ⟨hmo, hfr, ht, rfl, rfl, rfl, hc3, hc4⟩, ho2, rfl, hok2⟩)
          · skip
            refine lv_iconst (v := nI 0) hx hb d_M_lengthen_43 (by decide) ?_
            exact wz_zret hx hb hr hlocks hK hP hD hS d_M_lengthen_44 (by first | exact Or.inl rfl | exact Or.inr rfl) (Or.inl ⟨rfl, rfl, fun ⟨mo', fr', t', q⟩ => by
          obtain rfl := (nI_eq (by have := q.1; omega) (by omega)).mp q.2.2.2.1.symm
          obtain rfl := (nI_eq (by have := q.2.2.1; omega) (by omega)).mp q.2.2.2.2.2.1.symm
          exact hc4 q.2.2.2.2.2.2.2⟩)
        · skip
          refine lv_iconst (v := nI 0) hx hb d_M_lengthen_29 (by decide) ?_
          exact wz_zret hx hb hr hlocks hK hP hD hS d_M_lengthen_30 (by first | exact Or.inl rfl | exact Or.inr rfl) (Or.inl ⟨rfl, rfl, fun ⟨mo', fr', t', q⟩ => by
          obtain rfl := (nI_eq (by have := q.2.1; omega) (by omega)).mp q.2.2.2.2.1.symm
          obtain rfl := (nI_eq (by have := q.2.2.1; omega) (by omega)).mp q.2.2.2.2.2.1.symm
          exact q.2.2.2.2.2.2.1 hc3⟩)
