theorem zs_fr {s1 g1 : Nat → Int32} {i : Nat} (h1 : ∀ p, p < i → s1 p = nI p ∧ g1 p = nI p) (p : Nat) (hp : p < i + 1) : upd s1 i (nI i) p = nI p ∧ upd g1 i (nI i) p = nI p := by
  by_cases e : p = i
  · subst e; rw [pk_us, pk_us]; exact ⟨rfl, rfl⟩
  · rw [pk_un e, pk_un e]; exact h1 p (by omega)
theorem zm_fr {t1 : Nat → Int32} {k i : Nat} (h1 : ∀ p, p < i → t1 (8 * k + p) = nI p) (p : Nat) (hp : p < i + 1) : upd t1 (8 * k + i) (nI i) (8 * k + p) = nI p := by
  by_cases e : p = i
  · subst e; rw [pk_us]
  · rw [pk_un (by omega)]; exact h1 p (by omega)
theorem d_Z_fresh_0 : decode b_Z_fresh 0 = .ok (.aload_n 0, 1) := by decide +kernel
theorem d_Z_fresh_1 : decode b_Z_fresh 1 = .ok (.iconst 0, 1) := by decide +kernel
theorem d_Z_fresh_2 : decode b_Z_fresh 2 = .ok (.putfield 62, 3) := by decide +kernel
theorem d_Z_fresh_5 : decode b_Z_fresh 5 = .ok (.iconst 0, 1) := by decide +kernel
theorem d_Z_fresh_6 : decode b_Z_fresh 6 = .ok (.istore_n 1, 1) := by decide +kernel
theorem d_Z_fresh_7 : decode b_Z_fresh 7 = .ok (.iload_n 1, 1) := by decide +kernel
theorem d_Z_fresh_8 : decode b_Z_fresh 8 = .ok (.bipush 8, 2) := by decide +kernel
theorem d_Z_fresh_10 : decode b_Z_fresh 10 = .ok (.if_icmp .ge 23, 3) := by decide +kernel
theorem d_Z_fresh_13 : decode b_Z_fresh 13 = .ok (.aload_n 0, 1) := by decide +kernel
theorem d_Z_fresh_14 : decode b_Z_fresh 14 = .ok (.getfield 16, 3) := by decide +kernel
theorem d_Z_fresh_17 : decode b_Z_fresh 17 = .ok (.iload_n 1, 1) := by decide +kernel
theorem d_Z_fresh_18 : decode b_Z_fresh 18 = .ok (.iload_n 1, 1) := by decide +kernel
theorem d_Z_fresh_19 : decode b_Z_fresh 19 = .ok (.iastore, 1) := by decide +kernel
theorem d_Z_fresh_20 : decode b_Z_fresh 20 = .ok (.aload_n 0, 1) := by decide +kernel
theorem d_Z_fresh_21 : decode b_Z_fresh 21 = .ok (.getfield 19, 3) := by decide +kernel
theorem d_Z_fresh_24 : decode b_Z_fresh 24 = .ok (.iload_n 1, 1) := by decide +kernel
theorem d_Z_fresh_25 : decode b_Z_fresh 25 = .ok (.iload_n 1, 1) := by decide +kernel
theorem d_Z_fresh_26 : decode b_Z_fresh 26 = .ok (.iastore, 1) := by decide +kernel
theorem d_Z_fresh_27 : decode b_Z_fresh 27 = .ok (.iinc 1 1, 3) := by decide +kernel
theorem d_Z_fresh_30 : decode b_Z_fresh 30 = .ok (.goto (-23), 3) := by decide +kernel
theorem d_Z_fresh_33 : decode b_Z_fresh 33 = .ok (.aload_n 0, 1) := by decide +kernel
theorem d_Z_fresh_34 : decode b_Z_fresh 34 = .ok (.invokevirtual 65, 3) := by decide +kernel
theorem d_Z_fresh_37 : decode b_Z_fresh 37 = .ok (.return_, 1) := by decide +kernel
theorem d_Z_clear_0 : decode b_Z_clear 0 = .ok (.aload_n 0, 1) := by decide +kernel
theorem d_Z_clear_1 : decode b_Z_clear 1 = .ok (.iconst 0, 1) := by decide +kernel
theorem d_Z_clear_2 : decode b_Z_clear 2 = .ok (.putfield 59, 3) := by decide +kernel
theorem d_Z_clear_5 : decode b_Z_clear 5 = .ok (.aload_n 0, 1) := by decide +kernel
theorem d_Z_clear_6 : decode b_Z_clear 6 = .ok (.invokevirtual 56, 3) := by decide +kernel
theorem d_Z_clear_9 : decode b_Z_clear 9 = .ok (.return_, 1) := by decide +kernel
theorem d_Z_move_0 : decode b_Z_move 0 = .ok (.aload_n 0, 1) := by decide +kernel
theorem d_Z_move_1 : decode b_Z_move 1 = .ok (.iconst 0, 1) := by decide +kernel
theorem d_Z_move_2 : decode b_Z_move 2 = .ok (.putfield 59, 3) := by decide +kernel
theorem d_Z_move_5 : decode b_Z_move 5 = .ok (.aload_n 0, 1) := by decide +kernel
theorem d_Z_move_6 : decode b_Z_move 6 = .ok (.getfield 62, 3) := by decide +kernel
theorem d_Z_move_9 : decode b_Z_move 9 = .ok (.bipush 6, 2) := by decide +kernel
theorem d_Z_move_11 : decode b_Z_move 11 = .ok (.if_icmp .ne 5, 3) := by decide +kernel
theorem d_Z_move_14 : decode b_Z_move 14 = .ok (.iconst (-1), 1) := by decide +kernel
theorem d_Z_move_15 : decode b_Z_move 15 = .ok (.ireturn, 1) := by decide +kernel
theorem d_Z_move_16 : decode b_Z_move 16 = .ok (.iconst 0, 1) := by decide +kernel
theorem d_Z_move_17 : decode b_Z_move 17 = .ok (.istore_n 1, 1) := by decide +kernel
theorem d_Z_move_18 : decode b_Z_move 18 = .ok (.iload_n 1, 1) := by decide +kernel
theorem d_Z_move_19 : decode b_Z_move 19 = .ok (.bipush 8, 2) := by decide +kernel
theorem d_Z_move_21 : decode b_Z_move 21 = .ok (.if_icmp .ge 24, 3) := by decide +kernel
theorem d_Z_move_24 : decode b_Z_move 24 = .ok (.aload_n 0, 1) := by decide +kernel
theorem d_Z_move_25 : decode b_Z_move 25 = .ok (.getfield 7, 3) := by decide +kernel
theorem d_Z_move_28 : decode b_Z_move 28 = .ok (.bipush 8, 2) := by decide +kernel
theorem d_Z_move_30 : decode b_Z_move 30 = .ok (.aload_n 0, 1) := by decide +kernel
theorem d_Z_move_31 : decode b_Z_move 31 = .ok (.getfield 62, 3) := by decide +kernel
theorem d_Z_move_34 : decode b_Z_move 34 = .ok (.imul, 1) := by decide +kernel
theorem d_Z_move_35 : decode b_Z_move 35 = .ok (.iload_n 1, 1) := by decide +kernel
theorem d_Z_move_36 : decode b_Z_move 36 = .ok (.iadd, 1) := by decide +kernel
theorem d_Z_move_37 : decode b_Z_move 37 = .ok (.iload_n 1, 1) := by decide +kernel
theorem d_Z_move_38 : decode b_Z_move 38 = .ok (.iastore, 1) := by decide +kernel
theorem d_Z_move_39 : decode b_Z_move 39 = .ok (.iinc 1 1, 3) := by decide +kernel
theorem d_Z_move_42 : decode b_Z_move 42 = .ok (.goto (-24), 3) := by decide +kernel
theorem d_Z_move_45 : decode b_Z_move 45 = .ok (.aload_n 0, 1) := by decide +kernel
theorem d_Z_move_46 : decode b_Z_move 46 = .ok (.getfield 13, 3) := by decide +kernel
theorem d_Z_move_49 : decode b_Z_move 49 = .ok (.aload_n 0, 1) := by decide +kernel
theorem d_Z_move_50 : decode b_Z_move 50 = .ok (.getfield 62, 3) := by decide +kernel
theorem d_Z_move_53 : decode b_Z_move 53 = .ok (.iconst 1, 1) := by decide +kernel
theorem d_Z_move_54 : decode b_Z_move 54 = .ok (.iastore, 1) := by decide +kernel
theorem d_Z_move_55 : decode b_Z_move 55 = .ok (.aload_n 0, 1) := by decide +kernel
theorem d_Z_move_56 : decode b_Z_move 56 = .ok (.dup, 1) := by decide +kernel
theorem d_Z_move_57 : decode b_Z_move 57 = .ok (.getfield 62, 3) := by decide +kernel
theorem d_Z_move_60 : decode b_Z_move 60 = .ok (.iconst 1, 1) := by decide +kernel
theorem d_Z_move_61 : decode b_Z_move 61 = .ok (.iadd, 1) := by decide +kernel
theorem d_Z_move_62 : decode b_Z_move 62 = .ok (.putfield 62, 3) := by decide +kernel
theorem d_Z_move_65 : decode b_Z_move 65 = .ok (.aload_n 0, 1) := by decide +kernel
theorem d_Z_move_66 : decode b_Z_move 66 = .ok (.invokevirtual 65, 3) := by decide +kernel
theorem d_Z_move_69 : decode b_Z_move 69 = .ok (.aload_n 0, 1) := by decide +kernel
theorem d_Z_move_70 : decode b_Z_move 70 = .ok (.getfield 62, 3) := by decide +kernel
theorem d_Z_move_73 : decode b_Z_move 73 = .ok (.iconst 1, 1) := by decide +kernel
theorem d_Z_move_74 : decode b_Z_move 74 = .ok (.isub, 1) := by decide +kernel
theorem d_Z_move_75 : decode b_Z_move 75 = .ok (.ireturn, 1) := by decide +kernel
theorem d_Z_orderOf_0 : decode b_Z_orderOf 0 = .ok (.iconst 1, 1) := by decide +kernel
theorem d_Z_orderOf_1 : decode b_Z_orderOf 1 = .ok (.istore_n 2, 1) := by decide +kernel
theorem d_Z_orderOf_2 : decode b_Z_orderOf 2 = .ok (.iconst 1, 1) := by decide +kernel
theorem d_Z_orderOf_3 : decode b_Z_orderOf 3 = .ok (.istore_n 3, 1) := by decide +kernel
theorem d_Z_orderOf_4 : decode b_Z_orderOf 4 = .ok (.iconst 0, 1) := by decide +kernel
theorem d_Z_orderOf_5 : decode b_Z_orderOf 5 = .ok (.istore 4, 2) := by decide +kernel
theorem d_Z_orderOf_7 : decode b_Z_orderOf 7 = .ok (.iload 4, 2) := by decide +kernel
theorem d_Z_orderOf_9 : decode b_Z_orderOf 9 = .ok (.aload_n 0, 1) := by decide +kernel
theorem d_Z_orderOf_10 : decode b_Z_orderOf 10 = .ok (.getfield 53, 3) := by decide +kernel
theorem d_Z_orderOf_13 : decode b_Z_orderOf 13 = .ok (.if_icmp .ge 59, 3) := by decide +kernel
theorem d_Z_orderOf_16 : decode b_Z_orderOf 16 = .ok (.iload_n 3, 1) := by decide +kernel
theorem d_Z_orderOf_17 : decode b_Z_orderOf 17 = .ok (.ifCond .eq 55, 3) := by decide +kernel
theorem d_Z_orderOf_20 : decode b_Z_orderOf 20 = .ok (.iload 4, 2) := by decide +kernel
theorem d_Z_orderOf_22 : decode b_Z_orderOf 22 = .ok (.istore 5, 2) := by decide +kernel
theorem d_Z_orderOf_24 : decode b_Z_orderOf 24 = .ok (.iconst 0, 1) := by decide +kernel
theorem d_Z_orderOf_25 : decode b_Z_orderOf 25 = .ok (.istore 6, 2) := by decide +kernel
theorem d_Z_orderOf_27 : decode b_Z_orderOf 27 = .ok (.iload 6, 2) := by decide +kernel
theorem d_Z_orderOf_29 : decode b_Z_orderOf 29 = .ok (.iload_n 2, 1) := by decide +kernel
theorem d_Z_orderOf_30 : decode b_Z_orderOf 30 = .ok (.if_icmp .ge 23, 3) := by decide +kernel
theorem d_Z_orderOf_33 : decode b_Z_orderOf 33 = .ok (.aload_n 0, 1) := by decide +kernel
theorem d_Z_orderOf_34 : decode b_Z_orderOf 34 = .ok (.getfield 7, 3) := by decide +kernel
theorem d_Z_orderOf_37 : decode b_Z_orderOf 37 = .ok (.bipush 8, 2) := by decide +kernel
theorem d_Z_orderOf_39 : decode b_Z_orderOf 39 = .ok (.iload_n 1, 1) := by decide +kernel
theorem d_Z_orderOf_40 : decode b_Z_orderOf 40 = .ok (.imul, 1) := by decide +kernel
theorem d_Z_orderOf_41 : decode b_Z_orderOf 41 = .ok (.iload 5, 2) := by decide +kernel
theorem d_Z_orderOf_43 : decode b_Z_orderOf 43 = .ok (.iadd, 1) := by decide +kernel
theorem d_Z_orderOf_44 : decode b_Z_orderOf 44 = .ok (.iaload, 1) := by decide +kernel
theorem d_Z_orderOf_45 : decode b_Z_orderOf 45 = .ok (.istore 5, 2) := by decide +kernel
theorem d_Z_orderOf_47 : decode b_Z_orderOf 47 = .ok (.iinc 6 1, 3) := by decide +kernel
theorem d_Z_orderOf_50 : decode b_Z_orderOf 50 = .ok (.goto (-23), 3) := by decide +kernel
theorem d_Z_orderOf_53 : decode b_Z_orderOf 53 = .ok (.iload 5, 2) := by decide +kernel
theorem d_Z_orderOf_55 : decode b_Z_orderOf 55 = .ok (.iload 4, 2) := by decide +kernel
theorem d_Z_orderOf_57 : decode b_Z_orderOf 57 = .ok (.if_icmp .ne 7, 3) := by decide +kernel
theorem d_Z_orderOf_60 : decode b_Z_orderOf 60 = .ok (.iconst 1, 1) := by decide +kernel
theorem d_Z_orderOf_61 : decode b_Z_orderOf 61 = .ok (.goto 4, 3) := by decide +kernel
theorem d_Z_orderOf_64 : decode b_Z_orderOf 64 = .ok (.iconst 0, 1) := by decide +kernel
theorem d_Z_orderOf_65 : decode b_Z_orderOf 65 = .ok (.istore_n 3, 1) := by decide +kernel
theorem d_Z_orderOf_66 : decode b_Z_orderOf 66 = .ok (.iinc 4 1, 3) := by decide +kernel
theorem d_Z_orderOf_69 : decode b_Z_orderOf 69 = .ok (.goto (-62), 3) := by decide +kernel
theorem d_Z_orderOf_72 : decode b_Z_orderOf 72 = .ok (.iload_n 3, 1) := by decide +kernel
theorem d_Z_orderOf_73 : decode b_Z_orderOf 73 = .ok (.ifCond .eq 5, 3) := by decide +kernel
theorem d_Z_orderOf_76 : decode b_Z_orderOf 76 = .ok (.iload_n 2, 1) := by decide +kernel
theorem d_Z_orderOf_77 : decode b_Z_orderOf 77 = .ok (.ireturn, 1) := by decide +kernel
theorem d_Z_orderOf_78 : decode b_Z_orderOf 78 = .ok (.iinc 2 1, 3) := by decide +kernel
theorem d_Z_orderOf_81 : decode b_Z_orderOf 81 = .ok (.goto (-79), 3) := by decide +kernel
theorem d_Z_cycle_0 : decode b_Z_cycle 0 = .ok (.aload_n 0, 1) := by decide +kernel
theorem d_Z_cycle_1 : decode b_Z_cycle 1 = .ok (.iconst 0, 1) := by decide +kernel
theorem d_Z_cycle_2 : decode b_Z_cycle 2 = .ok (.putfield 59, 3) := by decide +kernel
theorem d_Z_cycle_5 : decode b_Z_cycle 5 = .ok (.aload_n 0, 1) := by decide +kernel
theorem d_Z_cycle_6 : decode b_Z_cycle 6 = .ok (.iload_n 1, 1) := by decide +kernel
theorem d_Z_cycle_7 : decode b_Z_cycle 7 = .ok (.invokevirtual 72, 3) := by decide +kernel
theorem d_Z_cycle_10 : decode b_Z_cycle 10 = .ok (.ifCond .eq 39, 3) := by decide +kernel
theorem d_Z_cycle_13 : decode b_Z_cycle 13 = .ok (.aload_n 0, 1) := by decide +kernel
theorem d_Z_cycle_14 : decode b_Z_cycle 14 = .ok (.iload_n 2, 1) := by decide +kernel
theorem d_Z_cycle_15 : decode b_Z_cycle 15 = .ok (.invokevirtual 76, 3) := by decide +kernel
theorem d_Z_cycle_18 : decode b_Z_cycle 18 = .ok (.ifCond .eq 31, 3) := by decide +kernel
theorem d_Z_cycle_21 : decode b_Z_cycle 21 = .ok (.aload_n 0, 1) := by decide +kernel
theorem d_Z_cycle_22 : decode b_Z_cycle 22 = .ok (.iload_n 3, 1) := by decide +kernel
theorem d_Z_cycle_23 : decode b_Z_cycle 23 = .ok (.invokevirtual 76, 3) := by decide +kernel
theorem d_Z_cycle_26 : decode b_Z_cycle 26 = .ok (.ifCond .eq 23, 3) := by decide +kernel
theorem d_Z_cycle_29 : decode b_Z_cycle 29 = .ok (.iload_n 2, 1) := by decide +kernel
theorem d_Z_cycle_30 : decode b_Z_cycle 30 = .ok (.iload_n 3, 1) := by decide +kernel
theorem d_Z_cycle_31 : decode b_Z_cycle 31 = .ok (.if_icmp .eq 18, 3) := by decide +kernel
theorem d_Z_cycle_34 : decode b_Z_cycle 34 = .ok (.aload_n 0, 1) := by decide +kernel
theorem d_Z_cycle_35 : decode b_Z_cycle 35 = .ok (.getfield 7, 3) := by decide +kernel
theorem d_Z_cycle_38 : decode b_Z_cycle 38 = .ok (.bipush 8, 2) := by decide +kernel
theorem d_Z_cycle_40 : decode b_Z_cycle 40 = .ok (.iload_n 1, 1) := by decide +kernel
theorem d_Z_cycle_41 : decode b_Z_cycle 41 = .ok (.imul, 1) := by decide +kernel
theorem d_Z_cycle_42 : decode b_Z_cycle 42 = .ok (.iload_n 3, 1) := by decide +kernel
theorem d_Z_cycle_43 : decode b_Z_cycle 43 = .ok (.iadd, 1) := by decide +kernel
theorem d_Z_cycle_44 : decode b_Z_cycle 44 = .ok (.iaload, 1) := by decide +kernel
theorem d_Z_cycle_45 : decode b_Z_cycle 45 = .ok (.iload_n 3, 1) := by decide +kernel
theorem d_Z_cycle_46 : decode b_Z_cycle 46 = .ok (.if_icmp .eq 5, 3) := by decide +kernel
theorem d_Z_cycle_49 : decode b_Z_cycle 49 = .ok (.iconst 0, 1) := by decide +kernel
theorem d_Z_cycle_50 : decode b_Z_cycle 50 = .ok (.ireturn, 1) := by decide +kernel
theorem d_Z_cycle_51 : decode b_Z_cycle 51 = .ok (.aload_n 0, 1) := by decide +kernel
theorem d_Z_cycle_52 : decode b_Z_cycle 52 = .ok (.getfield 7, 3) := by decide +kernel
theorem d_Z_cycle_55 : decode b_Z_cycle 55 = .ok (.bipush 8, 2) := by decide +kernel
theorem d_Z_cycle_57 : decode b_Z_cycle 57 = .ok (.iload_n 1, 1) := by decide +kernel
theorem d_Z_cycle_58 : decode b_Z_cycle 58 = .ok (.imul, 1) := by decide +kernel
theorem d_Z_cycle_59 : decode b_Z_cycle 59 = .ok (.iload_n 3, 1) := by decide +kernel
theorem d_Z_cycle_60 : decode b_Z_cycle 60 = .ok (.iadd, 1) := by decide +kernel
theorem d_Z_cycle_61 : decode b_Z_cycle 61 = .ok (.aload_n 0, 1) := by decide +kernel
theorem d_Z_cycle_62 : decode b_Z_cycle 62 = .ok (.getfield 7, 3) := by decide +kernel
theorem d_Z_cycle_65 : decode b_Z_cycle 65 = .ok (.bipush 8, 2) := by decide +kernel
theorem d_Z_cycle_67 : decode b_Z_cycle 67 = .ok (.iload_n 1, 1) := by decide +kernel
theorem d_Z_cycle_68 : decode b_Z_cycle 68 = .ok (.imul, 1) := by decide +kernel
theorem d_Z_cycle_69 : decode b_Z_cycle 69 = .ok (.iload_n 2, 1) := by decide +kernel
theorem d_Z_cycle_70 : decode b_Z_cycle 70 = .ok (.iadd, 1) := by decide +kernel
theorem d_Z_cycle_71 : decode b_Z_cycle 71 = .ok (.iaload, 1) := by decide +kernel
theorem d_Z_cycle_72 : decode b_Z_cycle 72 = .ok (.iastore, 1) := by decide +kernel
theorem d_Z_cycle_73 : decode b_Z_cycle 73 = .ok (.aload_n 0, 1) := by decide +kernel
theorem d_Z_cycle_74 : decode b_Z_cycle 74 = .ok (.getfield 7, 3) := by decide +kernel
theorem d_Z_cycle_77 : decode b_Z_cycle 77 = .ok (.bipush 8, 2) := by decide +kernel
theorem d_Z_cycle_79 : decode b_Z_cycle 79 = .ok (.iload_n 1, 1) := by decide +kernel
theorem d_Z_cycle_80 : decode b_Z_cycle 80 = .ok (.imul, 1) := by decide +kernel
theorem d_Z_cycle_81 : decode b_Z_cycle 81 = .ok (.iload_n 2, 1) := by decide +kernel
theorem d_Z_cycle_82 : decode b_Z_cycle 82 = .ok (.iadd, 1) := by decide +kernel
theorem d_Z_cycle_83 : decode b_Z_cycle 83 = .ok (.iload_n 3, 1) := by decide +kernel
theorem d_Z_cycle_84 : decode b_Z_cycle 84 = .ok (.iastore, 1) := by decide +kernel
theorem d_Z_cycle_85 : decode b_Z_cycle 85 = .ok (.aload_n 0, 1) := by decide +kernel
theorem d_Z_cycle_86 : decode b_Z_cycle 86 = .ok (.getfield 13, 3) := by decide +kernel
theorem d_Z_cycle_89 : decode b_Z_cycle 89 = .ok (.iload_n 1, 1) := by decide +kernel
theorem d_Z_cycle_90 : decode b_Z_cycle 90 = .ok (.aload_n 0, 1) := by decide +kernel
theorem d_Z_cycle_91 : decode b_Z_cycle 91 = .ok (.iload_n 1, 1) := by decide +kernel
theorem d_Z_cycle_92 : decode b_Z_cycle 92 = .ok (.invokevirtual 79, 3) := by decide +kernel
theorem d_Z_cycle_95 : decode b_Z_cycle 95 = .ok (.iastore, 1) := by decide +kernel
theorem d_Z_cycle_96 : decode b_Z_cycle 96 = .ok (.aload_n 0, 1) := by decide +kernel
theorem d_Z_cycle_97 : decode b_Z_cycle 97 = .ok (.invokevirtual 65, 3) := by decide +kernel
theorem d_Z_cycle_100 : decode b_Z_cycle 100 = .ok (.iconst 1, 1) := by decide +kernel
theorem d_Z_cycle_101 : decode b_Z_cycle 101 = .ok (.ireturn, 1) := by decide +kernel
theorem d_Z_label_0 : decode b_Z_label 0 = .ok (.aload_n 0, 1) := by decide +kernel
theorem d_Z_label_1 : decode b_Z_label 1 = .ok (.iconst 0, 1) := by decide +kernel
theorem d_Z_label_2 : decode b_Z_label 2 = .ok (.putfield 59, 3) := by decide +kernel
theorem d_Z_label_5 : decode b_Z_label 5 = .ok (.aload_n 0, 1) := by decide +kernel
theorem d_Z_label_6 : decode b_Z_label 6 = .ok (.iload_n 2, 1) := by decide +kernel
theorem d_Z_label_7 : decode b_Z_label 7 = .ok (.invokevirtual 76, 3) := by decide +kernel
theorem d_Z_label_10 : decode b_Z_label 10 = .ok (.ifCond .eq 13, 3) := by decide +kernel
theorem d_Z_label_13 : decode b_Z_label 13 = .ok (.iload_n 3, 1) := by decide +kernel
theorem d_Z_label_14 : decode b_Z_label 14 = .ok (.ifCond .lt 9, 3) := by decide +kernel
theorem d_Z_label_17 : decode b_Z_label 17 = .ok (.iload_n 3, 1) := by decide +kernel
theorem d_Z_label_18 : decode b_Z_label 18 = .ok (.bipush 7, 2) := by decide +kernel
theorem d_Z_label_20 : decode b_Z_label 20 = .ok (.if_icmp .le 5, 3) := by decide +kernel
theorem d_Z_label_23 : decode b_Z_label 23 = .ok (.iconst 0, 1) := by decide +kernel
theorem d_Z_label_24 : decode b_Z_label 24 = .ok (.ireturn, 1) := by decide +kernel
theorem d_Z_label_25 : decode b_Z_label 25 = .ok (.iload_n 1, 1) := by decide +kernel
theorem d_Z_label_26 : decode b_Z_label 26 = .ok (.ifCond .eq 13, 3) := by decide +kernel
theorem d_Z_label_29 : decode b_Z_label 29 = .ok (.aload_n 0, 1) := by decide +kernel
theorem d_Z_label_30 : decode b_Z_label 30 = .ok (.getfield 19, 3) := by decide +kernel
theorem d_Z_label_33 : decode b_Z_label 33 = .ok (.iload_n 2, 1) := by decide +kernel
theorem d_Z_label_34 : decode b_Z_label 34 = .ok (.iload_n 3, 1) := by decide +kernel
theorem d_Z_label_35 : decode b_Z_label 35 = .ok (.iastore, 1) := by decide +kernel
theorem d_Z_label_36 : decode b_Z_label 36 = .ok (.goto 10, 3) := by decide +kernel
theorem d_Z_label_39 : decode b_Z_label 39 = .ok (.aload_n 0, 1) := by decide +kernel
theorem d_Z_label_40 : decode b_Z_label 40 = .ok (.getfield 16, 3) := by decide +kernel
theorem d_Z_label_43 : decode b_Z_label 43 = .ok (.iload_n 2, 1) := by decide +kernel
theorem d_Z_label_44 : decode b_Z_label 44 = .ok (.iload_n 3, 1) := by decide +kernel
theorem d_Z_label_45 : decode b_Z_label 45 = .ok (.iastore, 1) := by decide +kernel
theorem d_Z_label_46 : decode b_Z_label 46 = .ok (.aload_n 0, 1) := by decide +kernel
theorem d_Z_label_47 : decode b_Z_label 47 = .ok (.invokevirtual 65, 3) := by decide +kernel
theorem d_Z_label_50 : decode b_Z_label 50 = .ok (.iconst 1, 1) := by decide +kernel
theorem d_Z_label_51 : decode b_Z_label 51 = .ok (.ireturn, 1) := by decide +kernel
theorem kw_16 : (Cond.selects "TwoEndSearchModel" ⟨"TwoEndSearchModel", "fresh", "()V"⟩ ⟨"TwoEndSearchModel", "fresh", "()V"⟩ : Cond) ∈ bigW := bigW_of 16 (by decide +kernel) (by decide +kernel)
theorem kw_17 : (Cond.selects "TwoEndSearchModel" ⟨"TwoEndSearchModel", "change", "()V"⟩ ⟨"TwoEndSearchModel", "change", "()V"⟩ : Cond) ∈ bigW := bigW_of 17 (by decide +kernel) (by decide +kernel)
theorem kw_19 : (Cond.selects "TwoEndSearchModel" ⟨"TwoEndSearchModel", "isPlace", "(I)Z"⟩ ⟨"TwoEndSearchModel", "isPlace", "(I)Z"⟩ : Cond) ∈ bigW := bigW_of 19 (by decide +kernel) (by decide +kernel)
theorem kw_20 : (Cond.selects "TwoEndSearchModel" ⟨"TwoEndSearchModel", "orderOf", "(I)I"⟩ ⟨"TwoEndSearchModel", "orderOf", "(I)I"⟩ : Cond) ∈ bigW := bigW_of 20 (by decide +kernel) (by decide +kernel)
theorem kw_457 : (Cond.methodLink "TwoEndSearchModel" 56 ⟨"TwoEndSearchModel", "fresh", "()V"⟩ : Cond) ∈ bigW := bigW_of 457 (by decide +kernel) (by decide +kernel)
theorem kw_459 : (Cond.instanceMethod ⟨"TwoEndSearchModel", "fresh", "()V"⟩ : Cond) ∈ bigW := bigW_of 459 (by decide +kernel) (by decide +kernel)
theorem kw_460 : (Cond.code ⟨"TwoEndSearchModel", "fresh", "()V"⟩ prog_7_method_3_code 2 none : Cond) ∈ bigW := bigW_of 460 (by decide +kernel) (by decide +kernel)
theorem kw_461 : (Cond.methodLink "TwoEndSearchModel" 65 ⟨"TwoEndSearchModel", "change", "()V"⟩ : Cond) ∈ bigW := bigW_of 461 (by decide +kernel) (by decide +kernel)
theorem kw_463 : (Cond.instanceMethod ⟨"TwoEndSearchModel", "change", "()V"⟩ : Cond) ∈ bigW := bigW_of 463 (by decide +kernel) (by decide +kernel)
theorem kw_464 : (Cond.code ⟨"TwoEndSearchModel", "change", "()V"⟩ prog_7_method_4_code 1 none : Cond) ∈ bigW := bigW_of 464 (by decide +kernel) (by decide +kernel)
theorem kw_543 : (Cond.methodLink "TwoEndSearchModel" 76 ⟨"TwoEndSearchModel", "isPlace", "(I)Z"⟩ : Cond) ∈ bigW := bigW_of 543 (by decide +kernel) (by decide +kernel)
theorem kw_545 : (Cond.instanceMethod ⟨"TwoEndSearchModel", "isPlace", "(I)Z"⟩ : Cond) ∈ bigW := bigW_of 545 (by decide +kernel) (by decide +kernel)
theorem kw_546 : (Cond.code ⟨"TwoEndSearchModel", "isPlace", "(I)Z"⟩ prog_7_method_5_code 2 (some .boolean) : Cond) ∈ bigW := bigW_of 546 (by decide +kernel) (by decide +kernel)
theorem kw_547 : (Cond.methodLink "TwoEndSearchModel" 79 ⟨"TwoEndSearchModel", "orderOf", "(I)I"⟩ : Cond) ∈ bigW := bigW_of 547 (by decide +kernel) (by decide +kernel)
theorem kw_549 : (Cond.instanceMethod ⟨"TwoEndSearchModel", "orderOf", "(I)I"⟩ : Cond) ∈ bigW := bigW_of 549 (by decide +kernel) (by decide +kernel)
theorem kw_550 : (Cond.code ⟨"TwoEndSearchModel", "orderOf", "(I)I"⟩ prog_7_method_9_code 7 (some .int) : Cond) ∈ bigW := bigW_of 550 (by decide +kernel) (by decide +kernel)
def po_Z_fresh (q : wz_Q) (az : Nat → Nat) (th : Int32) (n k : Nat) (kn bk : Int32) (sz : Nat) (fd : Int32) (ln : Nat) (fm : Int32) (fw : Int64) (sb gb : Nat → Int32) : wz_G → Prop := fun w => ∃ (sb' gb' : Nat → Int32), w = [zo_W q az th n 0 (-1) bk sz (nI 0) ln fm fw, zs_W q az sb' gb'] ∧ (∀ p, p < 8 → sb' p = nI p ∧ gb' p = nI p)
set_option maxHeartbeats 4000000 in
set_option maxRecDepth 100000 in
/-- no move, label p at place p -/
theorem c_Z_fresh (l : Launch) (D : va_G) (q : wz_Q) (az : Nat → Nat) (th : Int32) (n k : Nat) (kn bk : Int32) (sz : Nat) (fd : Int32) (ln : Nat) (fm : Int32) (fw : Int64) (sb gb : Nat → Int32)  : wz_Mv l y_Z_fresh ws_Z_fresh ({ frames := 1, cells := 0, slots := 0, locals := 20 } : Room) D q ([.ref (az 0)] : List Value) [zo_W q az th n k kn bk sz fd ln fm fw, zs_W q az sb gb] (po_Z_fresh q az th n k kn bk sz fd ln fm fw sb gb) 0 0 := by
  intro sz9
  refine wz_enter (cc := b_Z_fresh) (maxL := 2) (ret := none) (Qc := fun A => (va_Qv (po_Z_fresh q az th n k kn bk sz fd ln fm fw sb gb) (wz_At D q A) A)) (by decide) (Nat.le_of_ble_eq_true rfl) ?_
  intro p e s m below meth c A ls C hP hD hS hl
  obtain ⟨hx, hb, hr, hml, hlocks, hown, hts, hN, hK, hA, hnm⟩ := C
  have hown : s.vm.findClass "TwoEndSearchModel" = some m.cls := hown
  have hl : lv_has ls 2 [(0, .ref (az 0))] := hl
  refine lv_aload_n hx hb d_Z_fresh_0 rfl (lv_at hl 0 rfl) ?_
  refine lv_iconst (v := nI 0) hx hb d_Z_fresh_1 (by decide) ?_
  refine wz_put (gs' := [zo_W q az th n 0 kn bk sz fd ln fm fw, zs_W q az sb gb]) (v := .int (nI 0)) (T := T_Z) (N := 22) hx hb hts i_Z t_Z t_Z_ok n_Z hown hK hP hD hS 0 0 rfl rfl rfl 2 (by decide) (hts _ kw_467) rfl rfl (ty := t_Z 2) (by decide +kernel) rfl rfl (Nat.le_of_ble_eq_true rfl) d_Z_fresh_2 rfl (fun H locs hP hD hS => ?_)
  refine lv_iconst (v := nI 0) hx hb d_Z_fresh_5 (by decide) ?_
  refine lv_istore_n (lv' := [(1, .int (nI 0)), (0, .ref (az 0))]) hx hb d_Z_fresh_6 rfl hl (by decide) rfl (fun ls hl => ?_)
  have loop : ∀ (d : Nat) (i : Nat) (s1 g1 : Nat → Int32), i ≤ 8 → 9 ≤ i + d → (∀ p, p < i → s1 p = nI p ∧ g1 p = nI p) → ∀ (H : Heap) (locs : List Loc) (ls : Array Slot), va_P D vwCl ([zo_W q az th n 0 kn bk sz fd ln fm fw, zs_W q az s1 g1] : wz_G).flatten H → va_D A ([zo_W q az th n 0 kn bk sz fd ln fm fw, zs_W q az s1 g1] : wz_G).flatten → va_S A s.heap H locs → lv_has ls 2 [(0, .ref (az 0)), (1, .int (nI i))] → W p l e ({ frames := 1, cells := 0, slots := 0, locals := 20 } : Room) s m ([.ref (az 0)] : List Value).toArray below meth c H locs 0 0 (MQ below (va_Qv (po_Z_fresh q az th n k kn bk sz fd ln fm fw sb gb) (wz_At D q A) A) ([.ref (az 0)] : List Value).toArray s 0 0 A) (F0 m 7 ls []) := by
    intro d
    induction d with
    | zero =>
      intro i s1 g1 hi hd h1
      omega
    | succ d ih =>
      intro i s1 g1 hi hd h1 H locs ls hP hD hS hl
      refine lv_iload_n hx hb d_Z_fresh_7 rfl (lv_at hl 1 rfl) ?_
      refine lv_bipush (v := nI 8) hx hb d_Z_fresh_8 (by decide) ?_
      refine wz_ge (tgt := 33) hx hb d_Z_fresh_10 (by decide) (by omega) (by omega) (fun hc => ?_) (fun hc => ?_)
      · skip
        refine lv_aload_n hx hb d_Z_fresh_33 rfl (lv_at hl 0 rfl) ?_
        have hQ := wz_split (n := 2) (gc := [zo_W q az th n 0 kn bk sz fd ln fm fw]) (gr := [zs_W q az s1 g1]) [0] [1] rfl (by decide) rfl rfl hP hD
        refine wz_callv (va_runV (As := []) (rest := []) ⟨hx, hb, hml, hown, hts⟩ (c_Z_change l D q az th n 0 kn bk sz fd ln fm fw _) (cwV 0 hts (wz_goodV kw_461 kw_463 kw_17 kw_37 kw_464) rfl rfl rfl (by decide +kernel) ⟨Nat.le_of_ble_eq_true rfl, Nat.le_of_ble_eq_true rfl⟩) (wz_preV (gi := 0) (k := 0) hN hK hQ wz_L_ok rfl rfl rfl) rfl rfl hl.1 rfl (lv_room (Nat.le_of_ble_eq_true rfl)) d_Z_fresh_34 ⟨Nat.le_of_ble_eq_true rfl, Nat.le_of_ble_eq_true rfl⟩) hQ hS hA (fun gx H locs hp hP hD hS => ?_)
        have hp : gx = _ := hp
        subst hp
        obtain ⟨hP, hD⟩ := wz_ord (n := 2) (gs' := [zo_W q az th n 0 (-1) bk sz (nI 0) ln fm fw, zs_W q az s1 g1]) [0, 1] rfl (by decide) rfl hP hD
        exact wz_vret hx hb hr hlocks hK hP hD hS d_Z_fresh_37 ⟨s1, g1, rfl, fun p hp => h1 p (by omega)⟩
      · skip
        refine lv_aload_n hx hb d_Z_fresh_13 rfl (lv_at hl 0 rfl) ?_
        refine wz_get (v := .ref (az 3)) (T := T_Z) (N := 22) hx hb hts i_Z hown hK hP 0 0 rfl rfl rfl 5 (by decide) (hts _ kw_470) rfl rfl d_Z_fresh_14 ?_
        refine lv_iload_n hx hb d_Z_fresh_17 rfl (lv_at hl 1 rfl) ?_
        refine lv_iload_n hx hb d_Z_fresh_18 rfl (lv_at hl 1 rfl) ?_
        refine wz_iast (gs' := [zo_W q az th n 0 kn bk sz fd ln fm fw, zs_W q az (upd s1 i (nI i)) g1]) hx hb hK hP hD hS 1 0 (j := i) rfl rfl (by omega) (by decide) d_Z_fresh_19 rfl (fun H locs hP hD hS => ?_)
        refine lv_aload_n hx hb d_Z_fresh_20 rfl (lv_at hl 0 rfl) ?_
        refine wz_get (v := .ref (az 4)) (T := T_Z) (N := 22) hx hb hts i_Z hown hK hP 0 0 rfl rfl rfl 6 (by decide) (hts _ kw_471) rfl rfl d_Z_fresh_21 ?_
        refine lv_iload_n hx hb d_Z_fresh_24 rfl (lv_at hl 1 rfl) ?_
        refine lv_iload_n hx hb d_Z_fresh_25 rfl (lv_at hl 1 rfl) ?_
        refine wz_iast (gs' := [zo_W q az th n 0 kn bk sz fd ln fm fw, zs_W q az (upd s1 i (nI i)) (upd g1 i (nI i))]) hx hb hK hP hD hS 1 1 (j := i) rfl rfl (by omega) (by decide) d_Z_fresh_26 rfl (fun H locs hP hD hS => ?_)
        refine lv_iinc (v := nI (i + 1)) (lv' := [(1, .int (nI (i + 1))), (0, .ref (az 0))]) hx hb d_Z_fresh_27 hl (k := 1) rfl (nI_1 i) (by decide) rfl (fun ls hl => ?_)
        refine lv_goto (tgt := 7) hx hb d_Z_fresh_30 (by decide) ?_
        exact ih (i + 1) (upd s1 i (nI i)) (upd g1 i (nI i)) (by omega) (by omega) (zs_fr h1) _ _ _ hP hD hS (lv_sub hl [1, 0] rfl)
  exact loop 9 0 sb gb (by omega) (by omega) (fun p h0 => absurd h0 (by omega)) _ _ _ hP hD hS (lv_sub hl [1, 0] rfl)
def po_Z_clear (q : wz_Q) (az : Nat → Nat) (th : Int32) (n k : Nat) (kn bk : Int32) (sz : Nat) (fd : Int32) (ln : Nat) (fm : Int32) (fw : Int64) (sb gb : Nat → Int32) : wz_G → Prop := fun w => ∃ (sb' gb' : Nat → Int32), w = [zo_W q az (nI 0) n 0 (-1) bk sz (nI 0) ln fm fw, zs_W q az sb' gb'] ∧ (∀ p, p < 8 → sb' p = nI p ∧ gb' p = nI p)
set_option maxHeartbeats 4000000 in
set_option maxRecDepth 100000 in
/-- as new -/
theorem c_Z_clear (l : Launch) (D : va_G) (q : wz_Q) (az : Nat → Nat) (th : Int32) (n k : Nat) (kn bk : Int32) (sz : Nat) (fd : Int32) (ln : Nat) (fm : Int32) (fw : Int64) (sb gb : Nat → Int32)  : wz_Mv l y_Z_clear ws_Z_clear ({ frames := 2, cells := 0, slots := 0, locals := 41 } : Room) D q ([.ref (az 0)] : List Value) [zo_W q az th n k kn bk sz fd ln fm fw, zs_W q az sb gb] (po_Z_clear q az th n k kn bk sz fd ln fm fw sb gb) 0 0 := by
  intro sz9
  refine wz_enter (cc := b_Z_clear) (maxL := 1) (ret := none) (Qc := fun A => (va_Qv (po_Z_clear q az th n k kn bk sz fd ln fm fw sb gb) (wz_At D q A) A)) (by decide) (Nat.le_of_ble_eq_true rfl) ?_
  intro p e s m below meth c A ls C hP hD hS hl
  obtain ⟨hx, hb, hr, hml, hlocks, hown, hts, hN, hK, hA, hnm⟩ := C
  have hown : s.vm.findClass "TwoEndSearchModel" = some m.cls := hown
  have hl : lv_has ls 1 [(0, .ref (az 0))] := hl
  refine lv_aload_n hx hb d_Z_clear_0 rfl (lv_at hl 0 rfl) ?_
  refine lv_iconst (v := nI 0) hx hb d_Z_clear_1 (by decide) ?_
  refine wz_put (gs' := [zo_W q az (nI 0) n k kn bk sz fd ln fm fw, zs_W q az sb gb]) (v := .int (nI 0)) (T := T_Z) (N := 22) hx hb hts i_Z t_Z t_Z_ok n_Z hown hK hP hD hS 0 0 rfl rfl rfl 0 (by decide) (hts _ kw_465) rfl rfl (ty := t_Z 0) (by decide +kernel) rfl rfl (Nat.le_of_ble_eq_true rfl) d_Z_clear_2 rfl (fun H locs hP hD hS => ?_)
  refine lv_aload_n hx hb d_Z_clear_5 rfl (lv_at hl 0 rfl) ?_
  have hQ := wz_split (n := 2) (gc := [zo_W q az (nI 0) n k kn bk sz fd ln fm fw, zs_W q az sb gb]) (gr := []) [0, 1] [] rfl (by decide) rfl rfl hP hD
  refine wz_callv (va_runV (As := []) (rest := []) ⟨hx, hb, hml, hown, hts⟩ (c_Z_fresh l D q az (nI 0) n k kn bk sz fd ln fm fw sb gb _) (cwV 0 hts (wz_goodV kw_457 kw_459 kw_16 kw_37 kw_460) rfl rfl rfl (by decide +kernel) ⟨Nat.le_of_ble_eq_true rfl, Nat.le_of_ble_eq_true rfl⟩) (wz_preV (gi := 0) (k := 0) hN hK hQ wz_L_ok rfl rfl rfl) rfl rfl hl.1 rfl (lv_room (Nat.le_of_ble_eq_true rfl)) d_Z_clear_6 ⟨Nat.le_of_ble_eq_true rfl, Nat.le_of_ble_eq_true rfl⟩) hQ hS hA (fun gx H locs hp hP hD hS => ?_)
  obtain ⟨s1, g1, rfl, h1⟩ := hp
  obtain ⟨hP, hD⟩ := wz_ord (n := 2) (gs' := [zo_W q az (nI 0) n 0 (-1) bk sz (nI 0) ln fm fw, zs_W q az s1 g1]) [0, 1] rfl (by decide) rfl hP hD
  exact wz_vret hx hb hr hlocks hK hP hD hS d_Z_clear_9 ⟨s1, g1, rfl, h1⟩
def po_Z_move (q : wz_Q) (az : Nat → Nat) (th : Int32) (n k : Nat) (kn bk : Int32) (sz : Nat) (fd : Int32) (ln : Nat) (fm : Int32) (fw : Int64) (to fo : Nat → Int32) : Int32 → wz_G → Prop := fun v w => (k = 6 ∧ v = -1 ∧ w = [zo_W q az (nI 0) n k kn bk sz fd ln fm fw, zt_W q az to fo]) ∨ (k < 6 ∧ v = nI k ∧ ∃ to' : Nat → Int32, w = [zo_W q az (nI 0) n (k + 1) (-1) bk sz (nI 0) ln fm fw, zt_W q az to' (upd fo k (nI 1))] ∧ (∀ p, p < 8 → to' (8 * k + p) = nI p) ∧ ∀ i, i < 8 * k → to' i = to i)
set_option maxHeartbeats 4000000 in
set_option maxRecDepth 100000 in
/-- a move that leaves everything -/
theorem c_Z_move (l : Launch) (D : va_G) (q : wz_Q) (az : Nat → Nat) (th : Int32) (n k : Nat) (kn bk : Int32) (sz : Nat) (fd : Int32) (ln : Nat) (fm : Int32) (fw : Int64) (to fo : Nat → Int32) (hk : k ≤ 6) : wz_Mi l y_Z_move ws_Z_move ({ frames := 1, cells := 0, slots := 0, locals := 20 } : Room) D q ([.ref (az 0)] : List Value) [zo_W q az th n k kn bk sz fd ln fm fw, zt_W q az to fo] (po_Z_move q az th n k kn bk sz fd ln fm fw to fo) 0 0 := by
  intro sz9
  refine wz_enter (cc := b_Z_move) (maxL := 2) (ret := (some .int)) (Qc := fun A => (va_Qi (po_Z_move q az th n k kn bk sz fd ln fm fw to fo) (wz_At D q A) A)) (by decide) (Nat.le_of_ble_eq_true rfl) ?_
  intro p e s m below meth c A ls C hP hD hS hl
  obtain ⟨hx, hb, hr, hml, hlocks, hown, hts, hN, hK, hA, hnm⟩ := C
  have hown : s.vm.findClass "TwoEndSearchModel" = some m.cls := hown
  have hl : lv_has ls 2 [(0, .ref (az 0))] := hl
  refine lv_aload_n hx hb d_Z_move_0 rfl (lv_at hl 0 rfl) ?_
  refine lv_iconst (v := nI 0) hx hb d_Z_move_1 (by decide) ?_
  refine wz_put (gs' := [zo_W q az (nI 0) n k kn bk sz fd ln fm fw, zt_W q az to fo]) (v := .int (nI 0)) (T := T_Z) (N := 22) hx hb hts i_Z t_Z t_Z_ok n_Z hown hK hP hD hS 0 0 rfl rfl rfl 0 (by decide) (hts _ kw_465) rfl rfl (ty := t_Z 0) (by decide +kernel) rfl rfl (Nat.le_of_ble_eq_true rfl) d_Z_move_2 rfl (fun H locs hP hD hS => ?_)
  refine lv_aload_n hx hb d_Z_move_5 rfl (lv_at hl 0 rfl) ?_
  refine wz_get (v := .int (nI k)) (T := T_Z) (N := 22) hx hb hts i_Z hown hK hP 0 0 rfl rfl rfl 2 (by decide) (hts _ kw_467) rfl rfl d_Z_move_6 ?_
  refine lv_bipush (v := nI 6) hx hb d_Z_move_9 (by decide) ?_
  refine wz_ne (tgt := 16) hx hb d_Z_move_11 (by decide) (by omega) (by omega) (fun hc => ?_) (fun hc => ?_)
  · skip
    have hk6 : k < 6 := by omega
    refine lv_iconst (v := nI 0) hx hb d_Z_move_16 (by decide) ?_
    refine lv_istore_n (lv' := [(1, .int (nI 0)), (0, .ref (az 0))]) hx hb d_Z_move_17 rfl hl (by decide) rfl (fun ls hl => ?_)
    have loop : ∀ (d : Nat) (i : Nat) (t1 : Nat → Int32), i ≤ 8 → 9 ≤ i + d → (∀ p, p < i → t1 (8 * k + p) = nI p) → (∀ j, j < 8 * k → t1 j = to j) → ∀ (H : Heap) (locs : List Loc) (ls : Array Slot), va_P D vwCl ([zo_W q az (nI 0) n k kn bk sz fd ln fm fw, zt_W q az t1 fo] : wz_G).flatten H → va_D A ([zo_W q az (nI 0) n k kn bk sz fd ln fm fw, zt_W q az t1 fo] : wz_G).flatten → va_S A s.heap H locs → lv_has ls 2 [(0, .ref (az 0)), (1, .int (nI i))] → W p l e ({ frames := 1, cells := 0, slots := 0, locals := 20 } : Room) s m ([.ref (az 0)] : List Value).toArray below meth c H locs 0 0 (MQ below (va_Qi (po_Z_move q az th n k kn bk sz fd ln fm fw to fo) (wz_At D q A) A) ([.ref (az 0)] : List Value).toArray s 0 0 A) (F0 m 18 ls []) := by
      intro d
      induction d with
      | zero =>
        intro i t1 hi hd h1 h2
        omega
      | succ d ih =>
        intro i t1 hi hd h1 h2 H locs ls hP hD hS hl
        refine lv_iload_n hx hb d_Z_move_18 rfl (lv_at hl 1 rfl) ?_
        refine lv_bipush (v := nI 8) hx hb d_Z_move_19 (by decide) ?_
        refine wz_ge (tgt := 45) hx hb d_Z_move_21 (by decide) (by omega) (by omega) (fun hc2 => ?_) (fun hc2 => ?_)
        · skip
          refine lv_aload_n hx hb d_Z_move_45 rfl (lv_at hl 0 rfl) ?_
          refine wz_get (v := .ref (az 2)) (T := T_Z) (N := 22) hx hb hts i_Z hown hK hP 0 0 rfl rfl rfl 4 (by decide) (hts _ kw_469) rfl rfl d_Z_move_46 ?_
          refine lv_aload_n hx hb d_Z_move_49 rfl (lv_at hl 0 rfl) ?_
          refine wz_get (v := .int (nI k)) (T := T_Z) (N := 22) hx hb hts i_Z hown hK hP 0 0 rfl rfl rfl 2 (by decide) (hts _ kw_467) rfl rfl d_Z_move_50 ?_
          refine lv_iconst (v := nI 1) hx hb d_Z_move_53 (by decide) ?_
          refine wz_iast (gs' := [zo_W q az (nI 0) n k kn bk sz fd ln fm fw, zt_W q az t1 (upd fo k (nI 1))]) hx hb hK hP hD hS 1 1 (j := k) rfl rfl (by omega) (by decide) d_Z_move_54 rfl (fun H locs hP hD hS => ?_)
          refine lv_aload_n hx hb d_Z_move_55 rfl (lv_at hl 0 rfl) ?_
          refine lv_dup hx hb d_Z_move_56 rfl ?_
          refine wz_get (v := .int (nI k)) (T := T_Z) (N := 22) hx hb hts i_Z hown hK hP 0 0 rfl rfl rfl 2 (by decide) (hts _ kw_467) rfl rfl d_Z_move_57 ?_
          refine lv_iconst (v := nI 1) hx hb d_Z_move_60 (by decide) ?_
          refine lv_iadd hx hb d_Z_move_61 ?_
          refine wz_topi (y := nI (k + 1)) (nI_add k 1) ?_
          refine wz_put (gs' := [zo_W q az (nI 0) n (k + 1) kn bk sz fd ln fm fw, zt_W q az t1 (upd fo k (nI 1))]) (v := .int (nI (k + 1))) (T := T_Z) (N := 22) hx hb hts i_Z t_Z t_Z_ok n_Z hown hK hP hD hS 0 0 rfl rfl rfl 2 (by decide) (hts _ kw_467) rfl rfl (ty := t_Z 2) (by decide +kernel) rfl rfl (Nat.le_of_ble_eq_true rfl) d_Z_move_62 rfl (fun H locs hP hD hS => ?_)
          refine lv_aload_n hx hb d_Z_move_65 rfl (lv_at hl 0 rfl) ?_
          have hQ := wz_split (n := 2) (gc := [zo_W q az (nI 0) n (k + 1) kn bk sz fd ln fm fw]) (gr := [zt_W q az t1 (upd fo k (nI 1))]) [0] [1] rfl (by decide) rfl rfl hP hD
          refine wz_callv (va_runV (As := []) (rest := []) ⟨hx, hb, hml, hown, hts⟩ (c_Z_change l D q az (nI 0) n (k + 1) kn bk sz fd ln fm fw _) (cwV 0 hts (wz_goodV kw_461 kw_463 kw_17 kw_37 kw_464) rfl rfl rfl (by decide +kernel) ⟨Nat.le_of_ble_eq_true rfl, Nat.le_of_ble_eq_true rfl⟩) (wz_preV (gi := 0) (k := 0) hN hK hQ wz_L_ok rfl rfl rfl) rfl rfl hl.1 rfl (lv_room (Nat.le_of_ble_eq_true rfl)) d_Z_move_66 ⟨Nat.le_of_ble_eq_true rfl, Nat.le_of_ble_eq_true rfl⟩) hQ hS hA (fun gx H locs hp hP hD hS => ?_)
          have hp : gx = _ := hp
          subst hp
          obtain ⟨hP, hD⟩ := wz_ord (n := 2) (gs' := [zo_W q az (nI 0) n (k + 1) (-1) bk sz (nI 0) ln fm fw, zt_W q az t1 (upd fo k (nI 1))]) [0, 1] rfl (by decide) rfl hP hD
          refine lv_aload_n hx hb d_Z_move_69 rfl (lv_at hl 0 rfl) ?_
          refine wz_get (v := .int (nI (k + 1))) (T := T_Z) (N := 22) hx hb hts i_Z hown hK hP 0 0 rfl rfl rfl 2 (by decide) (hts _ kw_467) rfl rfl d_Z_move_70 ?_
          refine lv_iconst (v := nI 1) hx hb d_Z_move_73 (by decide) ?_
          refine lv_isub hx hb d_Z_move_74 ?_
          refine wz_topi (y := nI k) (show _ = nI k from pk_sub (a := k + 1) (b := 1) (by omega)) ?_
          exact wz_iret hx hb hr hlocks hK hP hD hS d_Z_move_75 (Or.inr ⟨hk6, rfl, t1, rfl, fun p hp => h1 p (by omega), h2⟩)
        · skip
          refine lv_aload_n hx hb d_Z_move_24 rfl (lv_at hl 0 rfl) ?_
          refine wz_get (v := .ref (az 1)) (T := T_Z) (N := 22) hx hb hts i_Z hown hK hP 0 0 rfl rfl rfl 3 (by decide) (hts _ kw_468) rfl rfl d_Z_move_25 ?_
          refine lv_bipush (v := nI 8) hx hb d_Z_move_28 (by decide) ?_
          refine lv_aload_n hx hb d_Z_move_30 rfl (lv_at hl 0 rfl) ?_
          refine wz_get (v := .int (nI k)) (T := T_Z) (N := 22) hx hb hts i_Z hown hK hP 0 0 rfl rfl rfl 2 (by decide) (hts _ kw_467) rfl rfl d_Z_move_31 ?_
          refine lv_imul hx hb d_Z_move_34 ?_
          refine wz_topi (y := nI (8 * k)) (pk_mul 8 k) ?_
          refine lv_iload_n hx hb d_Z_move_35 rfl (lv_at hl 1 rfl) ?_
          refine lv_iadd hx hb d_Z_move_36 ?_
          refine wz_topi (y := nI ((8 * k) + i)) (nI_add (8 * k) i) ?_
          refine lv_iload_n hx hb d_Z_move_37 rfl (lv_at hl 1 rfl) ?_
          refine wz_iast (gs' := [zo_W q az (nI 0) n k kn bk sz fd ln fm fw, zt_W q az (upd t1 ((8 * k) + i) (nI i)) fo]) hx hb hK hP hD hS 1 0 (j := ((8 * k) + i)) rfl rfl (by omega) (by decide) d_Z_move_38 rfl (fun H locs hP hD hS => ?_)
          refine lv_iinc (v := nI (i + 1)) (lv' := [(1, .int (nI (i + 1))), (0, .ref (az 0))]) hx hb d_Z_move_39 hl (k := 1) rfl (nI_1 i) (by decide) rfl (fun ls hl => ?_)
          refine lv_goto (tgt := 18) hx hb d_Z_move_42 (by decide) ?_
          exact ih (i + 1) (upd t1 (8 * k + i) (nI i)) (by omega) (by omega) (zm_fr h1) (fun j hj => (pk_un (by omega)).trans (h2 j hj)) _ _ _ hP hD hS (lv_sub hl [1, 0] rfl)
    exact loop 9 0 to (by omega) (by omega) (fun p h0 => absurd h0 (by omega)) (fun _ _ => rfl) _ _ _ hP hD hS (lv_sub hl [1, 0] rfl)
  · skip
    subst hc
    refine lv_iconst (v := (-1)) hx hb d_Z_move_14 (by decide) ?_
    exact wz_iret hx hb hr hlocks hK hP hD hS d_Z_move_15 (Or.inl ⟨rfl, rfl, rfl⟩)
def po_Z_orderOf (q : wz_Q) (az : Nat → Nat) (th : Int32) (n k : Nat) (kn bk : Int32) (sz : Nat) (fd : Int32) (ln : Nat) (fm : Int32) (fw : Int64) (to fo : Nat → Int32) (o : Nat) (sg tu : Nat → Nat) : Int32 → wz_G → Prop := fun v w => w = [zo_W q az th n k kn bk sz fd ln fm fw, zt_W q az to fo] ∧ ∃ o', v = nI o' ∧ pz_od n sg o'
set_option maxHeartbeats 4000000 in
set_option maxRecDepth 100000 in
/-- how often until all is as it was -/
theorem c_Z_orderOf (l : Launch) (D : va_G) (q : wz_Q) (az : Nat → Nat) (th : Int32) (n k : Nat) (kn bk : Int32) (sz : Nat) (fd : Int32) (ln : Nat) (fm : Int32) (fw : Int64) (to fo : Nat → Int32) (o : Nat) (sg tu : Nat → Nat) (hn : n ≤ 8) (ho : o < 6) (hs : ∀ p, p < n → to (8 * o + p) = nI (sg p)) (hpm : pz_perm n sg tu) : wz_Mi l y_Z_orderOf ws_Z_orderOf ({ frames := 0, cells := 0, slots := 0, locals := 0 } : Room) D q ([.ref (az 0), .int (nI o)] : List Value) [zo_W q az th n k kn bk sz fd ln fm fw, zt_W q az to fo] (po_Z_orderOf q az th n k kn bk sz fd ln fm fw to fo o sg tu) 0 0 := by
  intro sz9
  refine wz_enter (cc := b_Z_orderOf) (maxL := 7) (ret := (some .int)) (Qc := fun A => (va_Qi (po_Z_orderOf q az th n k kn bk sz fd ln fm fw to fo o sg tu) (wz_At D q A) A)) (by decide) (Nat.le_of_ble_eq_true rfl) ?_
  intro p e s m below meth c A ls C hP hD hS hl
  obtain ⟨hx, hb, hr, hml, hlocks, hown, hts, hN, hK, hA, hnm⟩ := C
  have hown : s.vm.findClass "TwoEndSearchModel" = some m.cls := hown
  have hl : lv_has ls 7 [(0, .ref (az 0)), (1, .int (nI o))] := hl
  obtain ⟨o1, ho1⟩ := pz_od_ex hpm hn
  have ho15 := ho1.2.1
  refine lv_iconst (v := nI 1) hx hb d_Z_orderOf_0 (by decide) ?_
  refine lv_istore_n (lv' := [(2, .int (nI 1)), (0, .ref (az 0)), (1, .int (nI o))]) hx hb d_Z_orderOf_1 rfl hl (by decide) rfl (fun ls hl => ?_)
  have loop : ∀ (d : Nat) (t : Nat), 0 < t → t ≤ o1 → o1 + 1 ≤ t + d → (∀ i, 0 < i → i < t → ¬ ∀ p, p < n → pz_it sg i p = p) → ∀ (H : Heap) (locs : List Loc) (ls : Array Slot), va_P D vwCl ([zo_W q az th n k kn bk sz fd ln fm fw, zt_W q az to fo] : wz_G).flatten H → va_D A ([zo_W q az th n k kn bk sz fd ln fm fw, zt_W q az to fo] : wz_G).flatten → va_S A s.heap H locs → lv_has ls 7 [(0, .ref (az 0)), (1, .int (nI o)), (2, .int (nI t))] → W p l e ({ frames := 0, cells := 0, slots := 0, locals := 0 } : Room) s m ([.ref (az 0), .int (nI o)] : List Value).toArray below meth c H locs 0 0 (MQ below (va_Qi (po_Z_orderOf q az th n k kn bk sz fd ln fm fw to fo o sg tu) (wz_At D q A) A) ([.ref (az 0), .int (nI o)] : List Value).toArray s 0 0 A) (F0 m 2 ls []) := by
    intro d
    induction d with
    | zero =>
      intro t ht0 ht hd hno
      omega
    | succ d ih =>
      intro t ht0 ht hd hno H locs ls hP hD hS hl
      refine lv_iconst (v := nI 1) hx hb d_Z_orderOf_2 (by decide) ?_
      refine lv_istore_n (lv' := [(3, .int (nI 1)), (0, .ref (az 0)), (1, .int (nI o)), (2, .int (nI t))]) hx hb d_Z_orderOf_3 rfl hl (by decide) rfl (fun ls hl => ?_)
      refine lv_iconst (v := nI 0) hx hb d_Z_orderOf_4 (by decide) ?_
      refine lv_istore (lv' := [(4, .int (nI 0)), (3, .int (nI 1)), (0, .ref (az 0)), (1, .int (nI o)), (2, .int (nI t))]) hx hb d_Z_orderOf_5 hl (by decide) rfl (fun ls hl => ?_)
      have loop2 : ∀ (d2 : Nat) (y : Nat) (a9 : Bool), y ≤ n → n + 1 ≤ y + d2 → (a9 = true → ∀ p, p < y → pz_it sg t p = p) → (a9 = false → ¬ ∀ p, p < n → pz_it sg t p = p) → ∀ (H : Heap) (locs : List Loc) (ls : Array Slot), va_P D vwCl ([zo_W q az th n k kn bk sz fd ln fm fw, zt_W q az to fo] : wz_G).flatten H → va_D A ([zo_W q az th n k kn bk sz fd ln fm fw, zt_W q az to fo] : wz_G).flatten → va_S A s.heap H locs → lv_has ls 7 [(0, .ref (az 0)), (1, .int (nI o)), (2, .int (nI t)), (3, .int (bl_b a9)), (4, .int (nI y))] → W p l e ({ frames := 0, cells := 0, slots := 0, locals := 0 } : Room) s m ([.ref (az 0), .int (nI o)] : List Value).toArray below meth c H locs 0 0 (MQ below (va_Qi (po_Z_orderOf q az th n k kn bk sz fd ln fm fw to fo o sg tu) (wz_At D q A) A) ([.ref (az 0), .int (nI o)] : List Value).toArray s 0 0 A) (F0 m 7 ls []) := by
        intro d2
        induction d2 with
        | zero =>
          intro y a9 hy hd2 ha hb9
          omega
        | succ d2 ih2 =>
          intro y a9 hy hd2 ha hb9 H locs ls hP hD hS hl
          have hfin : ∀ a9 : Bool, (a9 = true → ∀ p, p < n → pz_it sg t p = p) → (a9 = false → ¬ ∀ p, p < n → pz_it sg t p = p) → ∀ (H : Heap) (locs : List Loc) (ls : Array Slot) (y : Int32), va_P D vwCl ([zo_W q az th n k kn bk sz fd ln fm fw, zt_W q az to fo] : wz_G).flatten H → va_D A ([zo_W q az th n k kn bk sz fd ln fm fw, zt_W q az to fo] : wz_G).flatten → va_S A s.heap H locs → lv_has ls 7 [(0, .ref (az 0)), (1, .int (nI o)), (2, .int (nI t)), (3, .int (bl_b a9)), (4, .int y)] → W p l e ({ frames := 0, cells := 0, slots := 0, locals := 0 } : Room) s m ([.ref (az 0), .int (nI o)] : List Value).toArray below meth c H locs 0 0 (MQ below (va_Qi (po_Z_orderOf q az th n k kn bk sz fd ln fm fw to fo o sg tu) (wz_At D q A) A) ([.ref (az 0), .int (nI o)] : List Value).toArray s 0 0 A) (F0 m 72 ls []) := by
            intro a9 ha hb9 H locs ls y hP hD hS hl
            refine lv_iload_n hx hb d_Z_orderOf_72 rfl (lv_at hl 3 rfl) ?_
            refine lv_if_eq (tgt := 78) hx hb d_Z_orderOf_73 (by decide) (fun hc => ?_) (fun hc => ?_)
            · skip
              have ha9 : a9 = false := by
                cases a9 with
                | true => exact absurd hc (by decide)
                | false => rfl
              have hto : t ≠ o1 := fun q => hb9 ha9 (q ▸ ho1.2.2.1)
              refine lv_iinc (v := nI (t + 1)) (lv' := [(2, .int (nI (t + 1))), (0, .ref (az 0)), (1, .int (nI o)), (3, .int (bl_b a9)), (4, .int y)]) hx hb d_Z_orderOf_78 hl (k := 2) rfl (nI_1 t) (by decide) rfl (fun ls hl => ?_)
              refine lv_goto (tgt := 2) hx hb d_Z_orderOf_81 (by decide) ?_
              exact ih (t + 1) (by omega) (by omega) (by omega) (fun i h0 h1 => by
            by_cases e0 : i = t
            · subst e0; exact hb9 ha9
            · exact hno i h0 (by omega)) _ _ _ hP hD hS (lv_sub hl [1, 2, 0] rfl)
            · skip
              have ha9 : a9 = true := by
                cases a9 with
                | false => exact absurd rfl hc
                | true => rfl
              refine lv_iload_n hx hb d_Z_orderOf_76 rfl (lv_at hl 2 rfl) ?_
              exact wz_iret hx hb hr hlocks hK hP hD hS d_Z_orderOf_77 ⟨rfl, t, rfl, by omega, by omega, ha ha9, hno⟩
          refine lv_iload hx hb d_Z_orderOf_7 (lv_at hl 4 rfl) ?_
          refine lv_aload_n hx hb d_Z_orderOf_9 rfl (lv_at hl 0 rfl) ?_
          refine wz_get (v := .int (nI n)) (T := T_Z) (N := 22) hx hb hts i_Z hown hK hP 0 0 rfl rfl rfl 1 (by decide) (hts _ kw_466) rfl rfl d_Z_orderOf_10 ?_
          refine wz_ge (tgt := 72) hx hb d_Z_orderOf_13 (by decide) (by omega) (by omega) (fun hc => ?_) (fun hc => ?_)
          · skip
            have hyn : y = n := by omega
            subst hyn
            exact hfin a9 ha hb9 _ _ _ _ hP hD hS (lv_sub hl [0, 1, 2, 3, 4] rfl)
          · skip
            refine lv_iload_n hx hb d_Z_orderOf_16 rfl (lv_at hl 3 rfl) ?_
            refine lv_if_eq (tgt := 72) hx hb d_Z_orderOf_17 (by decide) (fun hc2 => ?_) (fun hc2 => ?_)
            · skip
              have ha9 : a9 = false := by
                cases a9 with
                | true => exact absurd hc2 (by decide)
                | false => rfl
              exact hfin a9 (fun e0 => by rw [ha9] at e0; cases e0) hb9 _ _ _ _ hP hD hS (lv_sub hl [0, 1, 2, 3, 4] rfl)
            · skip
              have ha9 : a9 = true := by
                cases a9 with
                | false => exact absurd rfl hc2
                | true => rfl
              subst ha9
              refine lv_iload hx hb d_Z_orderOf_20 (lv_at hl 4 rfl) ?_
              refine lv_istore (lv' := [(5, .int (nI y)), (0, .ref (az 0)), (1, .int (nI o)), (2, .int (nI t)), (3, .int (bl_b true)), (4, .int (nI y))]) hx hb d_Z_orderOf_22 hl (by decide) rfl (fun ls hl => ?_)
              refine lv_iconst (v := nI 0) hx hb d_Z_orderOf_24 (by decide) ?_
              refine lv_istore (lv' := [(6, .int (nI 0)), (5, .int (nI y)), (0, .ref (az 0)), (1, .int (nI o)), (2, .int (nI t)), (3, .int (bl_b true)), (4, .int (nI y))]) hx hb d_Z_orderOf_25 hl (by decide) rfl (fun ls hl => ?_)
              have loop3 : ∀ (d3 : Nat) (j : Nat), j ≤ t → t + 1 ≤ j + d3 → ∀ (H : Heap) (locs : List Loc) (ls : Array Slot), va_P D vwCl ([zo_W q az th n k kn bk sz fd ln fm fw, zt_W q az to fo] : wz_G).flatten H → va_D A ([zo_W q az th n k kn bk sz fd ln fm fw, zt_W q az to fo] : wz_G).flatten → va_S A s.heap H locs → lv_has ls 7 [(0, .ref (az 0)), (1, .int (nI o)), (2, .int (nI t)), (3, .int (bl_b true)), (4, .int (nI y)), (5, .int (nI (pz_it sg j y))), (6, .int (nI j))] → W p l e ({ frames := 0, cells := 0, slots := 0, locals := 0 } : Room) s m ([.ref (az 0), .int (nI o)] : List Value).toArray below meth c H locs 0 0 (MQ below (va_Qi (po_Z_orderOf q az th n k kn bk sz fd ln fm fw to fo o sg tu) (wz_At D q A) A) ([.ref (az 0), .int (nI o)] : List Value).toArray s 0 0 A) (F0 m 27 ls []) := by
                intro d3
                induction d3 with
                | zero =>
                  intro j hj hd3
                  omega
                | succ d3 ih3 =>
                  intro j hj hd3 H locs ls hP hD hS hl
                  have hjl := pz_it_lt (fun p hp => (hpm p hp).1) j hc
                  refine lv_iload hx hb d_Z_orderOf_27 (lv_at hl 6 rfl) ?_
                  refine lv_iload_n hx hb d_Z_orderOf_29 rfl (lv_at hl 2 rfl) ?_
                  refine wz_ge (tgt := 53) hx hb d_Z_orderOf_30 (by decide) (by omega) (by omega) (fun hc3 => ?_) (fun hc3 => ?_)
                  · skip
                    have hjt : t = j := by omega
                    subst hjt
                    refine lv_iload hx hb d_Z_orderOf_53 (lv_at hl 5 rfl) ?_
                    refine lv_iload hx hb d_Z_orderOf_55 (lv_at hl 4 rfl) ?_
                    refine wz_ne (tgt := 64) hx hb d_Z_orderOf_57 (by decide) (by omega) (by omega) (fun hc4 => ?_) (fun hc4 => ?_)
                    · skip
                      refine lv_iconst (v := nI 0) hx hb d_Z_orderOf_64 (by decide) ?_
                      refine lv_istore_n (lv' := [(3, .int (nI 0)), (0, .ref (az 0)), (1, .int (nI o)), (2, .int (nI t)), (4, .int (nI y)), (5, .int (nI (pz_it sg t y))), (6, .int (nI t))]) hx hb d_Z_orderOf_65 rfl hl (by decide) rfl (fun ls hl => ?_)
                      refine lv_iinc (v := nI (y + 1)) (lv' := [(4, .int (nI (y + 1))), (3, .int (nI 0)), (0, .ref (az 0)), (1, .int (nI o)), (2, .int (nI t)), (5, .int (nI (pz_it sg t y))), (6, .int (nI t))]) hx hb d_Z_orderOf_66 hl (k := 4) rfl (nI_1 y) (by decide) rfl (fun ls hl => ?_)
                      refine lv_goto (tgt := 7) hx hb d_Z_orderOf_69 (by decide) ?_
                      exact ih2 (y + 1) false (by omega) (by omega) (fun e0 => by cases e0) (fun _ q => hc4 (q y hc)) _ _ _ hP hD hS (lv_sub hl [2, 3, 4, 1, 0] rfl)
                    · skip
                      refine lv_iconst (v := nI 1) hx hb d_Z_orderOf_60 (by decide) ?_
                      refine lv_goto (tgt := 65) hx hb d_Z_orderOf_61 (by decide) ?_
                      refine lv_istore_n (lv' := [(3, .int (nI 1)), (0, .ref (az 0)), (1, .int (nI o)), (2, .int (nI t)), (4, .int (nI y)), (5, .int (nI (pz_it sg t y))), (6, .int (nI t))]) hx hb d_Z_orderOf_65 rfl hl (by decide) rfl (fun ls hl => ?_)
                      refine lv_iinc (v := nI (y + 1)) (lv' := [(4, .int (nI (y + 1))), (3, .int (nI 1)), (0, .ref (az 0)), (1, .int (nI o)), (2, .int (nI t)), (5, .int (nI (pz_it sg t y))), (6, .int (nI t))]) hx hb d_Z_orderOf_66 hl (k := 4) rfl (nI_1 y) (by decide) rfl (fun ls hl => ?_)
                      refine lv_goto (tgt := 7) hx hb d_Z_orderOf_69 (by decide) ?_
                      exact ih2 (y + 1) true (by omega) (by omega) (fun _ p hp => by
                by_cases e0 : p = y
                · subst e0; exact hc4
                · exact ha rfl p (by omega)) (fun e0 => by cases e0) _ _ _ hP hD hS (lv_sub hl [2, 3, 4, 1, 0] rfl)
                  · skip
                    refine lv_aload_n hx hb d_Z_orderOf_33 rfl (lv_at hl 0 rfl) ?_
                    refine wz_get (v := .ref (az 1)) (T := T_Z) (N := 22) hx hb hts i_Z hown hK hP 0 0 rfl rfl rfl 3 (by decide) (hts _ kw_468) rfl rfl d_Z_orderOf_34 ?_
                    refine lv_bipush (v := nI 8) hx hb d_Z_orderOf_37 (by decide) ?_
                    refine lv_iload_n hx hb d_Z_orderOf_39 rfl (lv_at hl 1 rfl) ?_
                    refine lv_imul hx hb d_Z_orderOf_40 ?_
                    refine wz_topi (y := nI (8 * o)) (pk_mul 8 o) ?_
                    refine lv_iload hx hb d_Z_orderOf_41 (lv_at hl 5 rfl) ?_
                    refine lv_iadd hx hb d_Z_orderOf_43 ?_
                    refine wz_topi (y := nI ((8 * o) + (pz_it sg j y))) (nI_add (8 * o) (pz_it sg j y)) ?_
                    refine wz_iald hx hb hK hP 1 0 (j := ((8 * o) + (pz_it sg j y))) rfl rfl (by omega) (by decide) d_Z_orderOf_44 ?_
                    refine wz_topi (y := nI (pz_it sg (j + 1) y)) (hs _ hjl) ?_
                    refine lv_istore (lv' := [(5, .int (nI (pz_it sg (j + 1) y))), (0, .ref (az 0)), (1, .int (nI o)), (2, .int (nI t)), (3, .int (bl_b true)), (4, .int (nI y)), (6, .int (nI j))]) hx hb d_Z_orderOf_45 hl (by decide) rfl (fun ls hl => ?_)
                    refine lv_iinc (v := nI (j + 1)) (lv' := [(6, .int (nI (j + 1))), (5, .int (nI (pz_it sg (j + 1) y))), (0, .ref (az 0)), (1, .int (nI o)), (2, .int (nI t)), (3, .int (bl_b true)), (4, .int (nI y))]) hx hb d_Z_orderOf_47 hl (k := 6) rfl (nI_1 j) (by decide) rfl (fun ls hl => ?_)
                    refine lv_goto (tgt := 27) hx hb d_Z_orderOf_50 (by decide) ?_
                    exact ih3 (j + 1) (by omega) (by omega) _ _ _ hP hD hS (lv_sub hl [2, 3, 4, 5, 6, 1, 0] rfl)
              exact loop3 (t + 1) 0 (by omega) (by omega) _ _ _ hP hD hS (lv_sub hl [2, 3, 4, 5, 6, 1, 0] rfl)
      exact loop2 (n + 1) 0 true (by omega) (by omega) (fun _ p h0 => absurd h0 (by omega)) (fun e0 => by cases e0) _ _ _ hP hD hS (lv_sub hl [2, 3, 4, 1, 0] rfl)
  exact loop (o1 + 1) 1 (by omega) (by have := ho1.1; omega) (by omega) (fun i h0 h1 => absurd h1 (by omega)) _ _ _ hP hD hS (lv_sub hl [1, 2, 0] rfl)
def po_Z_cycle (q : wz_Q) (az : Nat → Nat) (th : Int32) (n k : Nat) (kn bk : Int32) (sz : Nat) (fd : Int32) (ln : Nat) (fm : Int32) (fw : Int64) (to fo : Nat → Int32) (x y z : Int32) (sg tu : Nat → Nat → Nat) (od : Nat → Nat) : Int32 → wz_G → Prop := fun v w => (v = 0 ∧ w = [zo_W q az (nI 0) n k kn bk sz fd ln fm fw, zt_W q az to fo] ∧ ¬ ∃ mo fr t, mv_can n k sg x y z mo fr t) ∨ (v = 1 ∧ ∃ (mo fr t o' : Nat) (to' fo' : Nat → Int32), mv_can n k sg x y z mo fr t ∧ pz_od n (pz_cyc (sg mo) fr t) o' ∧ w = [zo_W q az (nI 0) n k (-1) bk sz (nI 0) ln fm fw, zt_W q az to' fo'] ∧ zm_ok n k to' fo' (pz_up sg mo (pz_cyc (sg mo) fr t)) (pz_up tu mo (pz_cyi (sg mo) (tu mo) fr t)) (pz_up od mo o'))
set_option maxHeartbeats 4000000 in
set_option maxRecDepth 100000 in
/-- a move is lengthened -/
theorem c_Z_cycle (l : Launch) (D : va_G) (q : wz_Q) (az : Nat → Nat) (th : Int32) (n k : Nat) (kn bk : Int32) (sz : Nat) (fd : Int32) (ln : Nat) (fm : Int32) (fw : Int64) (to fo : Nat → Int32) (x y z : Int32) (sg tu : Nat → Nat → Nat) (od : Nat → Nat) (hn : n ≤ 8) (hk : k ≤ 6) (hok : zm_ok n k to fo sg tu od) : wz_Mi l y_Z_cycle ws_Z_cycle ({ frames := 1, cells := 0, slots := 0, locals := 26 } : Room) D q ([.ref (az 0), .int x, .int y, .int z] : List Value) [zo_W q az th n k kn bk sz fd ln fm fw, zt_W q az to fo] (po_Z_cycle q az th n k kn bk sz fd ln fm fw to fo x y z sg tu od) 0 0 := by
  intro sz9
  refine wz_enter (cc := b_Z_cycle) (maxL := 4) (ret := (some .boolean)) (Qc := fun A => (va_Qi (po_Z_cycle q az th n k kn bk sz fd ln fm fw to fo x y z sg tu od) (wz_At D q A) A)) (by decide) (Nat.le_of_ble_eq_true rfl) ?_
  intro p e s m below meth c A ls C hP hD hS hl
  obtain ⟨hx, hb, hr, hml, hlocks, hown, hts, hN, hK, hA, hnm⟩ := C
  have hown : s.vm.findClass "TwoEndSearchModel" = some m.cls := hown
  have hl : lv_has ls 4 [(0, .ref (az 0)), (1, .int x), (2, .int y), (3, .int z)] := hl
  refine lv_aload_n hx hb d_Z_cycle_0 rfl (lv_at hl 0 rfl) ?_
  refine lv_iconst (v := nI 0) hx hb d_Z_cycle_1 (by decide) ?_
  refine wz_put (gs' := [zo_W q az (nI 0) n k kn bk sz fd ln fm fw, zt_W q az to fo]) (v := .int (nI 0)) (T := T_Z) (N := 22) hx hb hts i_Z t_Z t_Z_ok n_Z hown hK hP hD hS 0 0 rfl rfl rfl 0 (by decide) (hts _ kw_465) rfl rfl (ty := t_Z 0) (by decide +kernel) rfl rfl (Nat.le_of_ble_eq_true rfl) d_Z_cycle_2 rfl (fun H locs hP hD hS => ?_)
  refine lv_aload_n hx hb d_Z_cycle_5 rfl (lv_at hl 0 rfl) ?_
  refine lv_iload_n hx hb d_Z_cycle_6 rfl (lv_at hl 1 rfl) ?_
  have hQ := wz_split (n := 2) (gc := [zo_W q az (nI 0) n k kn bk sz fd ln fm fw]) (gr := [zt_W q az to fo]) [0] [1] rfl (by decide) rfl rfl hP hD
  refine wz_calli (va_runV (As := [.int x]) (rest := []) ⟨hx, hb, hml, hown, hts⟩ (c_Z_isMove l D q az (nI 0) n k kn bk sz fd ln fm fw x hk _) (cwV 1 hts (wz_goodV kw_539 kw_541 kw_18 kw_37 kw_542) rfl rfl rfl (by decide +kernel) ⟨Nat.le_of_ble_eq_true rfl, Nat.le_of_ble_eq_true rfl⟩) (wz_preV (gi := 0) (k := 0) hN hK hQ wz_L_ok rfl rfl rfl) rfl rfl hl.1 rfl (lv_room (Nat.le_of_ble_eq_true rfl)) d_Z_cycle_7 ⟨Nat.le_of_ble_eq_true rfl, Nat.le_of_ble_eq_true rfl⟩) hQ hS hA (fun v_7 gx H locs hp0 hP hD hS => ?_)
  obtain ⟨rfl, hp0⟩ := hp0
  obtain ⟨hP, hD⟩ := wz_ord (n := 2) (gs' := [zo_W q az (nI 0) n k kn bk sz fd ln fm fw, zt_W q az to fo]) [0, 1] rfl (by decide) rfl hP hD
  refine lv_if_eq (tgt := 49) hx hb d_Z_cycle_10 (by decide) (fun hc => ?_) (fun hc => ?_)
  · skip
    refine lv_iconst (v := nI 0) hx hb d_Z_cycle_49 (by decide) ?_
    exact wz_zret hx hb hr hlocks hK hP hD hS d_Z_cycle_50 (by first | exact Or.inl rfl | exact Or.inr rfl) (Or.inl ⟨rfl, rfl, fun ⟨mo, fr, t, q⟩ => wz_bit_0 hp0 hc ⟨mo, q.1, q.2.2.2.1⟩⟩)
  · skip
    obtain ⟨mo, hmo, rfl⟩ := wz_bit_1 hp0 hc
    refine lv_aload_n hx hb d_Z_cycle_13 rfl (lv_at hl 0 rfl) ?_
    refine lv_iload_n hx hb d_Z_cycle_14 rfl (lv_at hl 2 rfl) ?_
    have hQ := wz_split (n := 2) (gc := [zo_W q az (nI 0) n k kn bk sz fd ln fm fw]) (gr := [zt_W q az to fo]) [0] [1] rfl (by decide) rfl rfl hP hD
    refine wz_calli (va_runV (As := [.int y]) (rest := []) ⟨hx, hb, hml, hown, hts⟩ (c_Z_isPlace l D q az (nI 0) n k kn bk sz fd ln fm fw y hn _) (cwV 1 hts (wz_goodV kw_543 kw_545 kw_19 kw_37 kw_546) rfl rfl rfl (by decide +kernel) ⟨Nat.le_of_ble_eq_true rfl, Nat.le_of_ble_eq_true rfl⟩) (wz_preV (gi := 0) (k := 0) hN hK hQ wz_L_ok rfl rfl rfl) rfl rfl hl.1 rfl (lv_room (Nat.le_of_ble_eq_true rfl)) d_Z_cycle_15 ⟨Nat.le_of_ble_eq_true rfl, Nat.le_of_ble_eq_true rfl⟩) hQ hS hA (fun v_15 gx H locs hp1 hP hD hS => ?_)
    obtain ⟨rfl, hp1⟩ := hp1
    obtain ⟨hP, hD⟩ := wz_ord (n := 2) (gs' := [zo_W q az (nI 0) n k kn bk sz fd ln fm fw, zt_W q az to fo]) [0, 1] rfl (by decide) rfl hP hD
    refine lv_if_eq (tgt := 49) hx hb d_Z_cycle_18 (by decide) (fun hc1 => ?_) (fun hc1 => ?_)
    · skip
      refine lv_iconst (v := nI 0) hx hb d_Z_cycle_49 (by decide) ?_
      exact wz_zret hx hb hr hlocks hK hP hD hS d_Z_cycle_50 (by first | exact Or.inl rfl | exact Or.inr rfl) (Or.inl ⟨rfl, rfl, fun ⟨mo, fr, t, q⟩ => wz_bit_0 hp1 hc1 ⟨fr, q.2.1, q.2.2.2.2.1⟩⟩)
    · skip
      obtain ⟨fr, hfr, rfl⟩ := wz_bit_1 hp1 hc1
      refine lv_aload_n hx hb d_Z_cycle_21 rfl (lv_at hl 0 rfl) ?_
      refine lv_iload_n hx hb d_Z_cycle_22 rfl (lv_at hl 3 rfl) ?_
      have hQ := wz_split (n := 2) (gc := [zo_W q az (nI 0) n k kn bk sz fd ln fm fw]) (gr := [zt_W q az to fo]) [0] [1] rfl (by decide) rfl rfl hP hD
      refine wz_calli (va_runV (As := [.int z]) (rest := []) ⟨hx, hb, hml, hown, hts⟩ (c_Z_isPlace l D q az (nI 0) n k kn bk sz fd ln fm fw z hn _) (cwV 1 hts (wz_goodV kw_543 kw_545 kw_19 kw_37 kw_546) rfl rfl rfl (by decide +kernel) ⟨Nat.le_of_ble_eq_true rfl, Nat.le_of_ble_eq_true rfl⟩) (wz_preV (gi := 0) (k := 0) hN hK hQ wz_L_ok rfl rfl rfl) rfl rfl hl.1 rfl (lv_room (Nat.le_of_ble_eq_true rfl)) d_Z_cycle_23 ⟨Nat.le_of_ble_eq_true rfl, Nat.le_of_ble_eq_true rfl⟩) hQ hS hA (fun v_23 gx H locs hp2 hP hD hS => ?_)
      obtain ⟨rfl, hp2⟩ := hp2
      obtain ⟨hP, hD⟩ := wz_ord (n := 2) (gs' := [zo_W q az (nI 0) n k kn bk sz fd ln fm fw, zt_W q az to fo]) [0, 1] rfl (by decide) rfl hP hD
      refine lv_if_eq (tgt := 49) hx hb d_Z_cycle_26 (by decide) (fun hc2 => ?_) (fun hc2 => ?_)
      · skip
        refine lv_iconst (v := nI 0) hx hb d_Z_cycle_49 (by decide) ?_
        exact wz_zret hx hb hr hlocks hK hP hD hS d_Z_cycle_50 (by first | exact Or.inl rfl | exact Or.inr rfl) (Or.inl ⟨rfl, rfl, fun ⟨mo, fr, t, q⟩ => wz_bit_0 hp2 hc2 ⟨t, q.2.2.1, q.2.2.2.2.2.1⟩⟩)
      · skip
        obtain ⟨t, ht, rfl⟩ := wz_bit_1 hp2 hc2
        have hO := hok mo hmo
        have hst := (hO.1 t ht).1
        have hsf := (hO.1 fr hfr).1
        refine lv_iload_n hx hb d_Z_cycle_29 rfl (lv_at hl 2 rfl) ?_
        refine lv_iload_n hx hb d_Z_cycle_30 rfl (lv_at hl 3 rfl) ?_
        refine wz_eq (tgt := 49) hx hb d_Z_cycle_31 (by decide) (by omega) (by omega) (fun hc3 => ?_) (fun hc3 => ?_)
        · skip
          refine lv_iconst (v := nI 0) hx hb d_Z_cycle_49 (by decide) ?_
          exact wz_zret hx hb hr hlocks hK hP hD hS d_Z_cycle_50 (by first | exact Or.inl rfl | exact Or.inr rfl) (Or.inl ⟨rfl, rfl, fun ⟨mo', fr', t', q⟩ => by
          obtain rfl := (nI_eq (by have := q.2.1; omega) (by omega)).mp q.2.2.2.2.1.symm
          obtain rfl := (nI_eq (by have := q.2.2.1; omega) (by omega)).mp q.2.2.2.2.2.1.symm
          exact q.2.2.2.2.2.2.1 hc3⟩)
        · skip
          refine lv_aload_n hx hb d_Z_cycle_34 rfl (lv_at hl 0 rfl) ?_
          refine wz_get (v := .ref (az 1)) (T := T_Z) (N := 22) hx hb hts i_Z hown hK hP 0 0 rfl rfl rfl 3 (by decide) (hts _ kw_468) rfl rfl d_Z_cycle_35 ?_
          refine lv_bipush (v := nI 8) hx hb d_Z_cycle_38 (by decide) ?_
          refine lv_iload_n hx hb d_Z_cycle_40 rfl (lv_at hl 1 rfl) ?_
          refine lv_imul hx hb d_Z_cycle_41 ?_
          refine wz_topi (y := nI (8 * mo)) (pk_mul 8 mo) ?_
          refine lv_iload_n hx hb d_Z_cycle_42 rfl (lv_at hl 3 rfl) ?_
          refine lv_iadd hx hb d_Z_cycle_43 ?_
          refine wz_topi (y := nI ((8 * mo) + t)) (nI_add (8 * mo) t) ?_
          refine wz_iald hx hb hK hP 1 0 (j := ((8 * mo) + t)) rfl rfl (by omega) (by decide) d_Z_cycle_44 ?_
          refine wz_topi (y := nI (sg mo t)) (hO.2.2.2 t ht) ?_
          refine lv_iload_n hx hb d_Z_cycle_45 rfl (lv_at hl 3 rfl) ?_
          refine wz_eq (tgt := 51) hx hb d_Z_cycle_46 (by decide) (by omega) (by omega) (fun hc4 => ?_) (fun hc4 => ?_)
          · skip
            refine lv_aload_n hx hb d_Z_cycle_51 rfl (lv_at hl 0 rfl) ?_
            refine wz_get (v := .ref (az 1)) (T := T_Z) (N := 22) hx hb hts i_Z hown hK hP 0 0 rfl rfl rfl 3 (by decide) (hts _ kw_468) rfl rfl d_Z_cycle_52 ?_
            refine lv_bipush (v := nI 8) hx hb d_Z_cycle_55 (by decide) ?_
            refine lv_iload_n hx hb d_Z_cycle_57 rfl (lv_at hl 1 rfl) ?_
            refine lv_imul hx hb d_Z_cycle_58 ?_
            refine wz_topi (y := nI (8 * mo)) (pk_mul 8 mo) ?_
            refine lv_iload_n hx hb d_Z_cycle_59 rfl (lv_at hl 3 rfl) ?_
            refine lv_iadd hx hb d_Z_cycle_60 ?_
            refine wz_topi (y := nI ((8 * mo) + t)) (nI_add (8 * mo) t) ?_
            refine lv_aload_n hx hb d_Z_cycle_61 rfl (lv_at hl 0 rfl) ?_
            refine wz_get (v := .ref (az 1)) (T := T_Z) (N := 22) hx hb hts i_Z hown hK hP 0 0 rfl rfl rfl 3 (by decide) (hts _ kw_468) rfl rfl d_Z_cycle_62 ?_
            refine lv_bipush (v := nI 8) hx hb d_Z_cycle_65 (by decide) ?_
            refine lv_iload_n hx hb d_Z_cycle_67 rfl (lv_at hl 1 rfl) ?_
            refine lv_imul hx hb d_Z_cycle_68 ?_
            refine wz_topi (y := nI (8 * mo)) (pk_mul 8 mo) ?_
            refine lv_iload_n hx hb d_Z_cycle_69 rfl (lv_at hl 2 rfl) ?_
            refine lv_iadd hx hb d_Z_cycle_70 ?_
            refine wz_topi (y := nI ((8 * mo) + fr)) (nI_add (8 * mo) fr) ?_
            refine wz_iald hx hb hK hP 1 0 (j := ((8 * mo) + fr)) rfl rfl (by omega) (by decide) d_Z_cycle_71 ?_
            refine wz_topi (y := nI (sg mo fr)) (hO.2.2.2 fr hfr) ?_
            refine wz_iast (gs' := [zo_W q az (nI 0) n k kn bk sz fd ln fm fw, zt_W q az (upd to ((8 * mo) + t) (nI (sg mo fr))) fo]) hx hb hK hP hD hS 1 0 (j := ((8 * mo) + t)) rfl rfl (by omega) (by decide) d_Z_cycle_72 rfl (fun H locs hP hD hS => ?_)
            refine lv_aload_n hx hb d_Z_cycle_73 rfl (lv_at hl 0 rfl) ?_
            refine wz_get (v := .ref (az 1)) (T := T_Z) (N := 22) hx hb hts i_Z hown hK hP 0 0 rfl rfl rfl 3 (by decide) (hts _ kw_468) rfl rfl d_Z_cycle_74 ?_
            refine lv_bipush (v := nI 8) hx hb d_Z_cycle_77 (by decide) ?_
            refine lv_iload_n hx hb d_Z_cycle_79 rfl (lv_at hl 1 rfl) ?_
            refine lv_imul hx hb d_Z_cycle_80 ?_
            refine wz_topi (y := nI (8 * mo)) (pk_mul 8 mo) ?_
            refine lv_iload_n hx hb d_Z_cycle_81 rfl (lv_at hl 2 rfl) ?_
            refine lv_iadd hx hb d_Z_cycle_82 ?_
            refine wz_topi (y := nI ((8 * mo) + fr)) (nI_add (8 * mo) fr) ?_
            refine lv_iload_n hx hb d_Z_cycle_83 rfl (lv_at hl 3 rfl) ?_
            refine wz_iast (gs' := [zo_W q az (nI 0) n k kn bk sz fd ln fm fw, zt_W q az (upd (upd to ((8 * mo) + t) (nI (sg mo fr))) ((8 * mo) + fr) (nI t)) fo]) hx hb hK hP hD hS 1 0 (j := ((8 * mo) + fr)) rfl rfl (by omega) (by decide) d_Z_cycle_84 rfl (fun H locs hP hD hS => ?_)
            refine lv_aload_n hx hb d_Z_cycle_85 rfl (lv_at hl 0 rfl) ?_
            refine wz_get (v := .ref (az 2)) (T := T_Z) (N := 22) hx hb hts i_Z hown hK hP 0 0 rfl rfl rfl 4 (by decide) (hts _ kw_469) rfl rfl d_Z_cycle_86 ?_
            refine lv_iload_n hx hb d_Z_cycle_89 rfl (lv_at hl 1 rfl) ?_
            refine lv_aload_n hx hb d_Z_cycle_90 rfl (lv_at hl 0 rfl) ?_
            refine lv_iload_n hx hb d_Z_cycle_91 rfl (lv_at hl 1 rfl) ?_
            obtain ⟨o', ho'⟩ := pz_od_ex (pz_cyc_ok hO.1 hfr ht hc3 hc4) hn
            have hok2 := zm_ok_len hn hok hmo hfr ht hc3 hc4 ho'
            have hO2 := hok2 mo hmo
            rw [pz_up_s, pz_up_s, pz_up_s, pk_us] at hO2
            have hQ := wz_split (n := 2) (gc := [zo_W q az (nI 0) n k kn bk sz fd ln fm fw, zt_W q az (upd (upd to ((8 * mo) + t) (nI (sg mo fr))) ((8 * mo) + fr) (nI t)) fo]) (gr := []) [0, 1] [] rfl (by decide) rfl rfl hP hD
            refine wz_calli (va_runV (As := [.int (nI mo)]) (rest := [.int (nI mo), .ref (az 2)]) ⟨hx, hb, hml, hown, hts⟩ (c_Z_orderOf l D q az (nI 0) n k kn bk sz fd ln fm fw (upd (upd to (8 * mo + t) (nI (sg mo fr))) (8 * mo + fr) (nI t)) fo mo (pz_cyc (sg mo) fr t) (pz_cyi (sg mo) (tu mo) fr t) hn (by omega) hO2.2.2.2 hO2.1 _) (cwV 1 hts (wz_goodV kw_547 kw_549 kw_20 kw_37 kw_550) rfl rfl rfl (by decide +kernel) ⟨Nat.le_of_ble_eq_true rfl, Nat.le_of_ble_eq_true rfl⟩) (wz_preV (gi := 0) (k := 0) hN hK hQ wz_L_ok rfl rfl rfl) rfl rfl hl.1 rfl (lv_room (Nat.le_of_ble_eq_true rfl)) d_Z_cycle_92 ⟨Nat.le_of_ble_eq_true rfl, Nat.le_of_ble_eq_true rfl⟩) hQ hS hA (fun v_92 gx H locs hp hP hD hS => ?_)
            obtain ⟨rfl, o2, rfl, ho2⟩ := hp
            obtain rfl : o2 = o' := pz_od_eq ho2 ho'
            obtain ⟨hP, hD⟩ := wz_ord (n := 2) (gs' := [zo_W q az (nI 0) n k kn bk sz fd ln fm fw, zt_W q az (upd (upd to ((8 * mo) + t) (nI (sg mo fr))) ((8 * mo) + fr) (nI t)) fo]) [0, 1] rfl (by decide) rfl hP hD
            refine wz_iast (gs' := [zo_W q az (nI 0) n k kn bk sz fd ln fm fw, zt_W q az (upd (upd to ((8 * mo) + t) (nI (sg mo fr))) ((8 * mo) + fr) (nI t)) (upd fo mo (nI o2))]) hx hb hK hP hD hS 1 1 (j := mo) rfl rfl (by omega) (by decide) d_Z_cycle_95 rfl (fun H locs hP hD hS => ?_)
            refine lv_aload_n hx hb d_Z_cycle_96 rfl (lv_at hl 0 rfl) ?_
            have hQ := wz_split (n := 2) (gc := [zo_W q az (nI 0) n k kn bk sz fd ln fm fw]) (gr := [zt_W q az (upd (upd to ((8 * mo) + t) (nI (sg mo fr))) ((8 * mo) + fr) (nI t)) (upd fo mo (nI o2))]) [0] [1] rfl (by decide) rfl rfl hP hD
            refine wz_callv (va_runV (As := []) (rest := []) ⟨hx, hb, hml, hown, hts⟩ (c_Z_change l D q az (nI 0) n k kn bk sz fd ln fm fw _) (cwV 0 hts (wz_goodV kw_461 kw_463 kw_17 kw_37 kw_464) rfl rfl rfl (by decide +kernel) ⟨Nat.le_of_ble_eq_true rfl, Nat.le_of_ble_eq_true rfl⟩) (wz_preV (gi := 0) (k := 0) hN hK hQ wz_L_ok rfl rfl rfl) rfl rfl hl.1 rfl (lv_room (Nat.le_of_ble_eq_true rfl)) d_Z_cycle_97 ⟨Nat.le_of_ble_eq_true rfl, Nat.le_of_ble_eq_true rfl⟩) hQ hS hA (fun gx H locs hp hP hD hS => ?_)
            have hp : gx = _ := hp
            subst hp
            obtain ⟨hP, hD⟩ := wz_ord (n := 2) (gs' := [zo_W q az (nI 0) n k (-1) bk sz (nI 0) ln fm fw, zt_W q az (upd (upd to ((8 * mo) + t) (nI (sg mo fr))) ((8 * mo) + fr) (nI t)) (upd fo mo (nI o2))]) [0, 1] rfl (by decide) rfl hP hD
            refine lv_iconst (v := nI 1) hx hb d_Z_cycle_100 (by decide) ?_
            exact wz_zret hx hb hr hlocks hK hP hD hS d_Z_cycle_101 (by first | exact Or.inl rfl | exact Or.inr rfl) (Or.inr ⟨rfl, mo, fr, t, o2, _, _, ⟨hmo, hfr, ht, rfl, rfl, rfl, hc3, hc4⟩, ho2, rfl, hok2⟩)
          · skip
            refine lv_iconst (v := nI 0) hx hb d_Z_cycle_49 (by decide) ?_
            exact wz_zret hx hb hr hlocks hK hP hD hS d_Z_cycle_50 (by first | exact Or.inl rfl | exact Or.inr rfl) (Or.inl ⟨rfl, rfl, fun ⟨mo', fr', t', q⟩ => by
          obtain rfl := (nI_eq (by have := q.1; omega) (by omega)).mp q.2.2.2.1.symm
          obtain rfl := (nI_eq (by have := q.2.2.1; omega) (by omega)).mp q.2.2.2.2.2.1.symm
          exact hc4 q.2.2.2.2.2.2.2⟩)
def po_Z_label (q : wz_Q) (az : Nat → Nat) (th : Int32) (n k : Nat) (kn bk : Int32) (sz : Nat) (fd : Int32) (ln : Nat) (fm : Int32) (fw : Int64) (sb gb : Nat → Int32) (b9 x y : Int32) : Int32 → wz_G → Prop := fun v w => (v = 0 ∧ w = [zo_W q az (nI 0) n k kn bk sz fd ln fm fw, zs_W q az sb gb] ∧ ¬ ∃ p j, p < n ∧ j < 8 ∧ x = nI p ∧ y = nI j) ∨ (v = 1 ∧ ∃ p j, p < n ∧ j < 8 ∧ x = nI p ∧ y = nI j ∧ w = [zo_W q az (nI 0) n k (-1) bk sz (nI 0) ln fm fw, zs_W q az (if b9 = 0 then upd sb p (nI j) else sb) (if b9 = 0 then gb else upd gb p (nI j))])
set_option maxHeartbeats 4000000 in
set_option maxRecDepth 100000 in
/-- a label at a place -/
theorem c_Z_label (l : Launch) (D : va_G) (q : wz_Q) (az : Nat → Nat) (th : Int32) (n k : Nat) (kn bk : Int32) (sz : Nat) (fd : Int32) (ln : Nat) (fm : Int32) (fw : Int64) (sb gb : Nat → Int32) (b9 x y : Int32) (hn : n ≤ 8) : wz_Mi l y_Z_label ws_Z_label ({ frames := 1, cells := 0, slots := 0, locals := 21 } : Room) D q ([.ref (az 0), .int b9, .int x, .int y] : List Value) [zo_W q az th n k kn bk sz fd ln fm fw, zs_W q az sb gb] (po_Z_label q az th n k kn bk sz fd ln fm fw sb gb b9 x y) 0 0 := by
  intro sz9
  refine wz_enter (cc := b_Z_label) (maxL := 4) (ret := (some .boolean)) (Qc := fun A => (va_Qi (po_Z_label q az th n k kn bk sz fd ln fm fw sb gb b9 x y) (wz_At D q A) A)) (by decide) (Nat.le_of_ble_eq_true rfl) ?_
  intro p e s m below meth c A ls C hP hD hS hl
  obtain ⟨hx, hb, hr, hml, hlocks, hown, hts, hN, hK, hA, hnm⟩ := C
  have hown : s.vm.findClass "TwoEndSearchModel" = some m.cls := hown
  have hl : lv_has ls 4 [(0, .ref (az 0)), (1, .int b9), (2, .int x), (3, .int y)] := hl
  refine lv_aload_n hx hb d_Z_label_0 rfl (lv_at hl 0 rfl) ?_
  refine lv_iconst (v := nI 0) hx hb d_Z_label_1 (by decide) ?_
  refine wz_put (gs' := [zo_W q az (nI 0) n k kn bk sz fd ln fm fw, zs_W q az sb gb]) (v := .int (nI 0)) (T := T_Z) (N := 22) hx hb hts i_Z t_Z t_Z_ok n_Z hown hK hP hD hS 0 0 rfl rfl rfl 0 (by decide) (hts _ kw_465) rfl rfl (ty := t_Z 0) (by decide +kernel) rfl rfl (Nat.le_of_ble_eq_true rfl) d_Z_label_2 rfl (fun H locs hP hD hS => ?_)
  refine lv_aload_n hx hb d_Z_label_5 rfl (lv_at hl 0 rfl) ?_
  refine lv_iload_n hx hb d_Z_label_6 rfl (lv_at hl 2 rfl) ?_
  have hQ := wz_split (n := 2) (gc := [zo_W q az (nI 0) n k kn bk sz fd ln fm fw]) (gr := [zs_W q az sb gb]) [0] [1] rfl (by decide) rfl rfl hP hD
  refine wz_calli (va_runV (As := [.int x]) (rest := []) ⟨hx, hb, hml, hown, hts⟩ (c_Z_isPlace l D q az (nI 0) n k kn bk sz fd ln fm fw x hn _) (cwV 1 hts (wz_goodV kw_543 kw_545 kw_19 kw_37 kw_546) rfl rfl rfl (by decide +kernel) ⟨Nat.le_of_ble_eq_true rfl, Nat.le_of_ble_eq_true rfl⟩) (wz_preV (gi := 0) (k := 0) hN hK hQ wz_L_ok rfl rfl rfl) rfl rfl hl.1 rfl (lv_room (Nat.le_of_ble_eq_true rfl)) d_Z_label_7 ⟨Nat.le_of_ble_eq_true rfl, Nat.le_of_ble_eq_true rfl⟩) hQ hS hA (fun v_7 gx H locs hp0 hP hD hS => ?_)
  obtain ⟨rfl, hp0⟩ := hp0
  obtain ⟨hP, hD⟩ := wz_ord (n := 2) (gs' := [zo_W q az (nI 0) n k kn bk sz fd ln fm fw, zs_W q az sb gb]) [0, 1] rfl (by decide) rfl hP hD
  refine lv_if_eq (tgt := 23) hx hb d_Z_label_10 (by decide) (fun hc => ?_) (fun hc => ?_)
  · skip
    refine lv_iconst (v := nI 0) hx hb d_Z_label_23 (by decide) ?_
    exact wz_zret hx hb hr hlocks hK hP hD hS d_Z_label_24 (by first | exact Or.inl rfl | exact Or.inr rfl) (Or.inl ⟨rfl, rfl, fun ⟨p1, j1, q⟩ => wz_bit_0 hp0 hc ⟨p1, q.1, q.2.2.1⟩⟩)
  · skip
    obtain ⟨p1, hp1, rfl⟩ := wz_bit_1 hp0 hc
    refine lv_iload_n hx hb d_Z_label_13 rfl (lv_at hl 3 rfl) ?_
    refine lv_if_lt (tgt := 23) hx hb d_Z_label_14 (by decide) (fun hc1 => ?_) (fun hc1 => ?_)
    · skip
      refine lv_iconst (v := nI 0) hx hb d_Z_label_23 (by decide) ?_
      exact wz_zret hx hb hr hlocks hK hP hD hS d_Z_label_24 (by first | exact Or.inl rfl | exact Or.inr rfl) (Or.inl ⟨rfl, rfl, fun ⟨p2, j1, q⟩ => nI_pos (by have := q.2.1; omega) (q.2.2.2 ▸ hc1)⟩)
    · skip
      refine lv_iload_n hx hb d_Z_label_17 rfl (lv_at hl 3 rfl) ?_
      refine lv_bipush (v := nI 7) hx hb d_Z_label_18 (by decide) ?_
      refine lv_icmp_le (tgt := 25) hx hb d_Z_label_20 (by decide) (fun hc2 => ?_) (fun hc2 => ?_)
      · skip
        obtain ⟨j1, hj1, rfl⟩ := nI_of2 (n := 7) (by decide) hc1 hc2
        refine lv_iload_n hx hb d_Z_label_25 rfl (lv_at hl 1 rfl) ?_
        refine lv_if_eq (tgt := 39) hx hb d_Z_label_26 (by decide) (fun hc3 => ?_) (fun hc3 => ?_)
        · skip
          refine lv_aload_n hx hb d_Z_label_39 rfl (lv_at hl 0 rfl) ?_
          refine wz_get (v := .ref (az 3)) (T := T_Z) (N := 22) hx hb hts i_Z hown hK hP 0 0 rfl rfl rfl 5 (by decide) (hts _ kw_470) rfl rfl d_Z_label_40 ?_
          refine lv_iload_n hx hb d_Z_label_43 rfl (lv_at hl 2 rfl) ?_
          refine lv_iload_n hx hb d_Z_label_44 rfl (lv_at hl 3 rfl) ?_
          refine wz_iast (gs' := [zo_W q az (nI 0) n k kn bk sz fd ln fm fw, zs_W q az (upd sb p1 (nI j1)) gb]) hx hb hK hP hD hS 1 0 (j := p1) rfl rfl (by omega) (by decide) d_Z_label_45 rfl (fun H locs hP hD hS => ?_)
          refine lv_aload_n hx hb d_Z_label_46 rfl (lv_at hl 0 rfl) ?_
          have hQ := wz_split (n := 2) (gc := [zo_W q az (nI 0) n k kn bk sz fd ln fm fw]) (gr := [zs_W q az (upd sb p1 (nI j1)) gb]) [0] [1] rfl (by decide) rfl rfl hP hD
          refine wz_callv (va_runV (As := []) (rest := []) ⟨hx, hb, hml, hown, hts⟩ (c_Z_change l D q az (nI 0) n k kn bk sz fd ln fm fw _) (cwV 0 hts (wz_goodV kw_461 kw_463 kw_17 kw_37 kw_464) rfl rfl rfl (by decide +kernel) ⟨Nat.le_of_ble_eq_true rfl, Nat.le_of_ble_eq_true rfl⟩) (wz_preV (gi := 0) (k := 0) hN hK hQ wz_L_ok rfl rfl rfl) rfl rfl hl.1 rfl (lv_room (Nat.le_of_ble_eq_true rfl)) d_Z_label_47 ⟨Nat.le_of_ble_eq_true rfl, Nat.le_of_ble_eq_true rfl⟩) hQ hS hA (fun gx H locs hp hP hD hS => ?_)
          have hp : gx = _ := hp
          subst hp
          obtain ⟨hP, hD⟩ := wz_ord (n := 2) (gs' := [zo_W q az (nI 0) n k (-1) bk sz (nI 0) ln fm fw, zs_W q az (upd sb p1 (nI j1)) gb]) [0, 1] rfl (by decide) rfl hP hD
          refine lv_iconst (v := nI 1) hx hb d_Z_label_50 (by decide) ?_
          exact wz_zret hx hb hr hlocks hK hP hD hS d_Z_label_51 (by first | exact Or.inl rfl | exact Or.inr rfl) (Or.inr ⟨rfl, p1, j1, hp1, by omega, rfl, rfl, by rw [if_pos hc3, if_pos hc3]⟩)
        · skip
          refine lv_aload_n hx hb d_Z_label_29 rfl (lv_at hl 0 rfl) ?_
          refine wz_get (v := .ref (az 4)) (T := T_Z) (N := 22) hx hb hts i_Z hown hK hP 0 0 rfl rfl rfl 6 (by decide) (hts _ kw_471) rfl rfl d_Z_label_30 ?_
          refine lv_iload_n hx hb d_Z_label_33 rfl (lv_at hl 2 rfl) ?_
          refine lv_iload_n hx hb d_Z_label_34 rfl (lv_at hl 3 rfl) ?_
          refine wz_iast (gs' := [zo_W q az (nI 0) n k kn bk sz fd ln fm fw, zs_W q az sb (upd gb p1 (nI j1))]) hx hb hK hP hD hS 1 1 (j := p1) rfl rfl (by omega) (by decide) d_Z_label_35 rfl (fun H locs hP hD hS => ?_)
          refine lv_goto (tgt := 46) hx hb d_Z_label_36 (by decide) ?_
          refine lv_aload_n hx hb d_Z_label_46 rfl (lv_at hl 0 rfl) ?_
          have hQ := wz_split (n := 2) (gc := [zo_W q az (nI 0) n k kn bk sz fd ln fm fw]) (gr := [zs_W q az sb (upd gb p1 (nI j1))]) [0] [1] rfl (by decide) rfl rfl hP hD
          refine wz_callv (va_runV (As := []) (rest := []) ⟨hx, hb, hml, hown, hts⟩ (c_Z_change l D q az (nI 0) n k kn bk sz fd ln fm fw _) (cwV 0 hts (wz_goodV kw_461 kw_463 kw_17 kw_37 kw_464) rfl rfl rfl (by decide +kernel) ⟨Nat.le_of_ble_eq_true rfl, Nat.le_of_ble_eq_true rfl⟩) (wz_preV (gi := 0) (k := 0) hN hK hQ wz_L_ok rfl rfl rfl) rfl rfl hl.1 rfl (lv_room (Nat.le_of_ble_eq_true rfl)) d_Z_label_47 ⟨Nat.le_of_ble_eq_true rfl, Nat.le_of_ble_eq_true rfl⟩) hQ hS hA (fun gx H locs hp hP hD hS => ?_)
          have hp : gx = _ := hp
          subst hp
          obtain ⟨hP, hD⟩ := wz_ord (n := 2) (gs' := [zo_W q az (nI 0) n k (-1) bk sz (nI 0) ln fm fw, zs_W q az sb (upd gb p1 (nI j1))]) [0, 1] rfl (by decide) rfl hP hD
          refine lv_iconst (v := nI 1) hx hb d_Z_label_50 (by decide) ?_
          exact wz_zret hx hb hr hlocks hK hP hD hS d_Z_label_51 (by first | exact Or.inl rfl | exact Or.inr rfl) (Or.inr ⟨rfl, p1, j1, hp1, by omega, rfl, rfl, by rw [if_neg hc3, if_neg hc3]⟩)
      · skip
        refine lv_iconst (v := nI 0) hx hb d_Z_label_23 (by decide) ?_
        exact wz_zret hx hb hr hlocks hK hP hD hS d_Z_label_24 (by first | exact Or.inl rfl | exact Or.inr rfl) (Or.inl ⟨rfl, rfl, fun ⟨p2, j1, q⟩ => hc2 (by rw [q.2.2.2]; exact nI_le (b := 7) (by have := q.2.1; omega) (by decide))⟩)
