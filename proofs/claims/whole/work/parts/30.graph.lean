/-! MODULE Graph -/
def gq_W (q : wz_Q) (a : Nat → Nat) (mr : Nat) (cap : Nat) (sb : Nat) (hs : Nat) (rl : Nat → Nat) (st : Nat → Int32) (sl : Nat → Int32) (cn : Nat) : va_W := [(a 0, .inr (1, [.ref mr, .ref (a 1), .ref (a 2), .int (nI hs), .ref (a 3), .int (nI cn)])), (a 1, .inl (q.1, cap, .inl st)), (a 2, .inl (q.1, sb, .inl sl)), (a 3, .inl (q.2.2, wz_out 12 rl))]
theorem gq_lset1 {L1 : Nat → Nat → Int32} {i u g : Nat} (h : u < i ∨ (6 ≤ u ∧ u < 6 + i) → L1 u g = -1) (hu : u < i + 1 ∨ (6 ≤ u ∧ u < 6 + (i + 1))) : pz_up (pz_up L1 i (upd (L1 i) g (-1))) (i + 6) (upd (pz_up L1 i (upd (L1 i) g (-1)) (i + 6)) g (-1)) u g = -1 := by
  by_cases e : u = i + 6
  · subst e; rw [pz_up_s, pk_us]
  · rw [pz_up_n _ _ e]
    by_cases e2 : u = i
    · subst e2; rw [pz_up_s, pk_us]
    · rw [pz_up_n _ _ e2]; exact h (by omega)
theorem gq_lset2 {L1 : Nat → Nat → Int32} {i g y : Nat} (u : Nat) (h : y ≠ g) : pz_up (pz_up L1 i (upd (L1 i) g (-1))) (i + 6) (upd (pz_up L1 i (upd (L1 i) g (-1)) (i + 6)) g (-1)) u y = L1 u y := by
  by_cases e : u = i + 6
  · subst e; rw [pz_up_s, pk_un h]
    by_cases e2 : i + 6 = i
    · omega
    · rw [pz_up_n _ _ e2]
  · rw [pz_up_n _ _ e]
    by_cases e2 : u = i
    · subst e2; rw [pz_up_s, pk_un h]
    · rw [pz_up_n _ _ e2]
theorem gq_dec (i : Nat) : nI (i + 1) - nI 1 + Int32.ofInt (-1) = nI i - nI 1 := by
  rw [pk_sub (by omega), Int32.sub_eq_add_neg]
  rfl
theorem d_G_slotOf_0 : decode b_G_slotOf 0 = .ok (.iload_n 1, 1) := by decide +kernel
theorem d_G_slotOf_1 : decode b_G_slotOf 1 = .ok (.ldc 48, 2) := by decide +kernel
theorem d_G_slotOf_3 : decode b_G_slotOf 3 = .ok (.imul, 1) := by decide +kernel
theorem d_G_slotOf_4 : decode b_G_slotOf 4 = .ok (.aload_n 0, 1) := by decide +kernel
theorem d_G_slotOf_5 : decode b_G_slotOf 5 = .ok (.getfield 27, 3) := by decide +kernel
theorem d_G_slotOf_8 : decode b_G_slotOf 8 = .ok (.iushr, 1) := by decide +kernel
theorem d_G_slotOf_9 : decode b_G_slotOf 9 = .ok (.istore_n 2, 1) := by decide +kernel
theorem d_G_slotOf_10 : decode b_G_slotOf 10 = .ok (.iconst 0, 1) := by decide +kernel
theorem d_G_slotOf_11 : decode b_G_slotOf 11 = .ok (.istore_n 3, 1) := by decide +kernel
theorem d_G_slotOf_12 : decode b_G_slotOf 12 = .ok (.iload_n 3, 1) := by decide +kernel
theorem d_G_slotOf_13 : decode b_G_slotOf 13 = .ok (.aload_n 0, 1) := by decide +kernel
theorem d_G_slotOf_14 : decode b_G_slotOf 14 = .ok (.getfield 24, 3) := by decide +kernel
theorem d_G_slotOf_17 : decode b_G_slotOf 17 = .ok (.arraylength, 1) := by decide +kernel
theorem d_G_slotOf_18 : decode b_G_slotOf 18 = .ok (.if_icmp .ge 49, 3) := by decide +kernel
theorem d_G_slotOf_21 : decode b_G_slotOf 21 = .ok (.aload_n 0, 1) := by decide +kernel
theorem d_G_slotOf_22 : decode b_G_slotOf 22 = .ok (.getfield 24, 3) := by decide +kernel
theorem d_G_slotOf_25 : decode b_G_slotOf 25 = .ok (.iload_n 2, 1) := by decide +kernel
theorem d_G_slotOf_26 : decode b_G_slotOf 26 = .ok (.iaload, 1) := by decide +kernel
theorem d_G_slotOf_27 : decode b_G_slotOf 27 = .ok (.istore 4, 2) := by decide +kernel
theorem d_G_slotOf_29 : decode b_G_slotOf 29 = .ok (.iload 4, 2) := by decide +kernel
theorem d_G_slotOf_31 : decode b_G_slotOf 31 = .ok (.ifCond .eq 16, 3) := by decide +kernel
theorem d_G_slotOf_34 : decode b_G_slotOf 34 = .ok (.aload_n 0, 1) := by decide +kernel
theorem d_G_slotOf_35 : decode b_G_slotOf 35 = .ok (.getfield 15, 3) := by decide +kernel
theorem d_G_slotOf_38 : decode b_G_slotOf 38 = .ok (.iload 4, 2) := by decide +kernel
theorem d_G_slotOf_40 : decode b_G_slotOf 40 = .ok (.iconst 1, 1) := by decide +kernel
theorem d_G_slotOf_41 : decode b_G_slotOf 41 = .ok (.isub, 1) := by decide +kernel
theorem d_G_slotOf_42 : decode b_G_slotOf 42 = .ok (.iaload, 1) := by decide +kernel
theorem d_G_slotOf_43 : decode b_G_slotOf 43 = .ok (.iload_n 1, 1) := by decide +kernel
theorem d_G_slotOf_44 : decode b_G_slotOf 44 = .ok (.if_icmp .ne 5, 3) := by decide +kernel
theorem d_G_slotOf_47 : decode b_G_slotOf 47 = .ok (.iload_n 2, 1) := by decide +kernel
theorem d_G_slotOf_48 : decode b_G_slotOf 48 = .ok (.ireturn, 1) := by decide +kernel
theorem d_G_slotOf_49 : decode b_G_slotOf 49 = .ok (.iload_n 2, 1) := by decide +kernel
theorem d_G_slotOf_50 : decode b_G_slotOf 50 = .ok (.iconst 1, 1) := by decide +kernel
theorem d_G_slotOf_51 : decode b_G_slotOf 51 = .ok (.iadd, 1) := by decide +kernel
theorem d_G_slotOf_52 : decode b_G_slotOf 52 = .ok (.aload_n 0, 1) := by decide +kernel
theorem d_G_slotOf_53 : decode b_G_slotOf 53 = .ok (.getfield 24, 3) := by decide +kernel
theorem d_G_slotOf_56 : decode b_G_slotOf 56 = .ok (.arraylength, 1) := by decide +kernel
theorem d_G_slotOf_57 : decode b_G_slotOf 57 = .ok (.iconst 1, 1) := by decide +kernel
theorem d_G_slotOf_58 : decode b_G_slotOf 58 = .ok (.isub, 1) := by decide +kernel
theorem d_G_slotOf_59 : decode b_G_slotOf 59 = .ok (.iand, 1) := by decide +kernel
theorem d_G_slotOf_60 : decode b_G_slotOf 60 = .ok (.istore_n 2, 1) := by decide +kernel
theorem d_G_slotOf_61 : decode b_G_slotOf 61 = .ok (.iinc 3 1, 3) := by decide +kernel
theorem d_G_slotOf_64 : decode b_G_slotOf 64 = .ok (.goto (-52), 3) := by decide +kernel
theorem d_G_slotOf_67 : decode b_G_slotOf 67 = .ok (.iload_n 2, 1) := by decide +kernel
theorem d_G_slotOf_68 : decode b_G_slotOf 68 = .ok (.ireturn, 1) := by decide +kernel
theorem d_G_enter_0 : decode b_G_enter 0 = .ok (.aload_n 0, 1) := by decide +kernel
theorem d_G_enter_1 : decode b_G_enter 1 = .ok (.iload_n 1, 1) := by decide +kernel
theorem d_G_enter_2 : decode b_G_enter 2 = .ok (.invokevirtual 34, 3) := by decide +kernel
theorem d_G_enter_5 : decode b_G_enter 5 = .ok (.istore_n 2, 1) := by decide +kernel
theorem d_G_enter_6 : decode b_G_enter 6 = .ok (.aload_n 0, 1) := by decide +kernel
theorem d_G_enter_7 : decode b_G_enter 7 = .ok (.getfield 24, 3) := by decide +kernel
theorem d_G_enter_10 : decode b_G_enter 10 = .ok (.iload_n 2, 1) := by decide +kernel
theorem d_G_enter_11 : decode b_G_enter 11 = .ok (.iaload, 1) := by decide +kernel
theorem d_G_enter_12 : decode b_G_enter 12 = .ok (.ifCond .eq 12, 3) := by decide +kernel
theorem d_G_enter_15 : decode b_G_enter 15 = .ok (.aload_n 0, 1) := by decide +kernel
theorem d_G_enter_16 : decode b_G_enter 16 = .ok (.getfield 24, 3) := by decide +kernel
theorem d_G_enter_19 : decode b_G_enter 19 = .ok (.iload_n 2, 1) := by decide +kernel
theorem d_G_enter_20 : decode b_G_enter 20 = .ok (.iaload, 1) := by decide +kernel
theorem d_G_enter_21 : decode b_G_enter 21 = .ok (.iconst 1, 1) := by decide +kernel
theorem d_G_enter_22 : decode b_G_enter 22 = .ok (.isub, 1) := by decide +kernel
theorem d_G_enter_23 : decode b_G_enter 23 = .ok (.ireturn, 1) := by decide +kernel
theorem d_G_enter_24 : decode b_G_enter 24 = .ok (.aload_n 0, 1) := by decide +kernel
theorem d_G_enter_25 : decode b_G_enter 25 = .ok (.getfield 31, 3) := by decide +kernel
theorem d_G_enter_28 : decode b_G_enter 28 = .ok (.aload_n 0, 1) := by decide +kernel
theorem d_G_enter_29 : decode b_G_enter 29 = .ok (.getfield 15, 3) := by decide +kernel
theorem d_G_enter_32 : decode b_G_enter 32 = .ok (.arraylength, 1) := by decide +kernel
theorem d_G_enter_33 : decode b_G_enter 33 = .ok (.if_icmp .lt 5, 3) := by decide +kernel
theorem d_G_enter_36 : decode b_G_enter 36 = .ok (.iconst 0, 1) := by decide +kernel
theorem d_G_enter_37 : decode b_G_enter 37 = .ok (.ireturn, 1) := by decide +kernel
theorem d_G_enter_38 : decode b_G_enter 38 = .ok (.aload_n 0, 1) := by decide +kernel
theorem d_G_enter_39 : decode b_G_enter 39 = .ok (.getfield 15, 3) := by decide +kernel
theorem d_G_enter_42 : decode b_G_enter 42 = .ok (.aload_n 0, 1) := by decide +kernel
theorem d_G_enter_43 : decode b_G_enter 43 = .ok (.getfield 31, 3) := by decide +kernel
theorem d_G_enter_46 : decode b_G_enter 46 = .ok (.iload_n 1, 1) := by decide +kernel
theorem d_G_enter_47 : decode b_G_enter 47 = .ok (.iastore, 1) := by decide +kernel
theorem d_G_enter_48 : decode b_G_enter 48 = .ok (.iconst 0, 1) := by decide +kernel
theorem d_G_enter_49 : decode b_G_enter 49 = .ok (.istore_n 3, 1) := by decide +kernel
theorem d_G_enter_50 : decode b_G_enter 50 = .ok (.iload_n 3, 1) := by decide +kernel
theorem d_G_enter_51 : decode b_G_enter 51 = .ok (.aload_n 0, 1) := by decide +kernel
theorem d_G_enter_52 : decode b_G_enter 52 = .ok (.getfield 9, 3) := by decide +kernel
theorem d_G_enter_55 : decode b_G_enter 55 = .ok (.getfield 38, 3) := by decide +kernel
theorem d_G_enter_58 : decode b_G_enter 58 = .ok (.if_icmp .ge 36, 3) := by decide +kernel
theorem d_G_enter_61 : decode b_G_enter 61 = .ok (.aload_n 0, 1) := by decide +kernel
theorem d_G_enter_62 : decode b_G_enter 62 = .ok (.getfield 21, 3) := by decide +kernel
theorem d_G_enter_65 : decode b_G_enter 65 = .ok (.iload_n 3, 1) := by decide +kernel
theorem d_G_enter_66 : decode b_G_enter 66 = .ok (.aaload, 1) := by decide +kernel
theorem d_G_enter_67 : decode b_G_enter 67 = .ok (.aload_n 0, 1) := by decide +kernel
theorem d_G_enter_68 : decode b_G_enter 68 = .ok (.getfield 31, 3) := by decide +kernel
theorem d_G_enter_71 : decode b_G_enter 71 = .ok (.iconst (-1), 1) := by decide +kernel
theorem d_G_enter_72 : decode b_G_enter 72 = .ok (.iastore, 1) := by decide +kernel
theorem d_G_enter_73 : decode b_G_enter 73 = .ok (.aload_n 0, 1) := by decide +kernel
theorem d_G_enter_74 : decode b_G_enter 74 = .ok (.getfield 21, 3) := by decide +kernel
theorem d_G_enter_77 : decode b_G_enter 77 = .ok (.iload_n 3, 1) := by decide +kernel
theorem d_G_enter_78 : decode b_G_enter 78 = .ok (.bipush 6, 2) := by decide +kernel
theorem d_G_enter_80 : decode b_G_enter 80 = .ok (.iadd, 1) := by decide +kernel
theorem d_G_enter_81 : decode b_G_enter 81 = .ok (.aaload, 1) := by decide +kernel
theorem d_G_enter_82 : decode b_G_enter 82 = .ok (.aload_n 0, 1) := by decide +kernel
theorem d_G_enter_83 : decode b_G_enter 83 = .ok (.getfield 31, 3) := by decide +kernel
theorem d_G_enter_86 : decode b_G_enter 86 = .ok (.iconst (-1), 1) := by decide +kernel
theorem d_G_enter_87 : decode b_G_enter 87 = .ok (.iastore, 1) := by decide +kernel
theorem d_G_enter_88 : decode b_G_enter 88 = .ok (.iinc 3 1, 3) := by decide +kernel
theorem d_G_enter_91 : decode b_G_enter 91 = .ok (.goto (-41), 3) := by decide +kernel
theorem d_G_enter_94 : decode b_G_enter 94 = .ok (.aload_n 0, 1) := by decide +kernel
theorem d_G_enter_95 : decode b_G_enter 95 = .ok (.dup, 1) := by decide +kernel
theorem d_G_enter_96 : decode b_G_enter 96 = .ok (.getfield 31, 3) := by decide +kernel
theorem d_G_enter_99 : decode b_G_enter 99 = .ok (.iconst 1, 1) := by decide +kernel
theorem d_G_enter_100 : decode b_G_enter 100 = .ok (.iadd, 1) := by decide +kernel
theorem d_G_enter_101 : decode b_G_enter 101 = .ok (.putfield 31, 3) := by decide +kernel
theorem d_G_enter_104 : decode b_G_enter 104 = .ok (.aload_n 0, 1) := by decide +kernel
theorem d_G_enter_105 : decode b_G_enter 105 = .ok (.getfield 24, 3) := by decide +kernel
theorem d_G_enter_108 : decode b_G_enter 108 = .ok (.iload_n 2, 1) := by decide +kernel
theorem d_G_enter_109 : decode b_G_enter 109 = .ok (.aload_n 0, 1) := by decide +kernel
theorem d_G_enter_110 : decode b_G_enter 110 = .ok (.getfield 31, 3) := by decide +kernel
theorem d_G_enter_113 : decode b_G_enter 113 = .ok (.iastore, 1) := by decide +kernel
theorem d_G_enter_114 : decode b_G_enter 114 = .ok (.aload_n 0, 1) := by decide +kernel
theorem d_G_enter_115 : decode b_G_enter 115 = .ok (.getfield 31, 3) := by decide +kernel
theorem d_G_enter_118 : decode b_G_enter 118 = .ok (.iconst 1, 1) := by decide +kernel
theorem d_G_enter_119 : decode b_G_enter 119 = .ok (.isub, 1) := by decide +kernel
theorem d_G_enter_120 : decode b_G_enter 120 = .ok (.ireturn, 1) := by decide +kernel
theorem d_G_follow_0 : decode b_G_follow 0 = .ok (.aload_n 0, 1) := by decide +kernel
theorem d_G_follow_1 : decode b_G_follow 1 = .ok (.getfield 21, 3) := by decide +kernel
theorem d_G_follow_4 : decode b_G_follow 4 = .ok (.iload_n 1, 1) := by decide +kernel
theorem d_G_follow_5 : decode b_G_follow 5 = .ok (.aaload, 1) := by decide +kernel
theorem d_G_follow_6 : decode b_G_follow 6 = .ok (.iload_n 2, 1) := by decide +kernel
theorem d_G_follow_7 : decode b_G_follow 7 = .ok (.iaload, 1) := by decide +kernel
theorem d_G_follow_8 : decode b_G_follow 8 = .ok (.istore_n 3, 1) := by decide +kernel
theorem d_G_follow_9 : decode b_G_follow 9 = .ok (.iload_n 3, 1) := by decide +kernel
theorem d_G_follow_10 : decode b_G_follow 10 = .ok (.iconst (-1), 1) := by decide +kernel
theorem d_G_follow_11 : decode b_G_follow 11 = .ok (.if_icmp .eq 5, 3) := by decide +kernel
theorem d_G_follow_14 : decode b_G_follow 14 = .ok (.iload_n 3, 1) := by decide +kernel
theorem d_G_follow_15 : decode b_G_follow 15 = .ok (.ireturn, 1) := by decide +kernel
theorem d_G_follow_16 : decode b_G_follow 16 = .ok (.aload_n 0, 1) := by decide +kernel
theorem d_G_follow_17 : decode b_G_follow 17 = .ok (.aload_n 0, 1) := by decide +kernel
theorem d_G_follow_18 : decode b_G_follow 18 = .ok (.getfield 9, 3) := by decide +kernel
theorem d_G_follow_21 : decode b_G_follow 21 = .ok (.iload_n 1, 1) := by decide +kernel
theorem d_G_follow_22 : decode b_G_follow 22 = .ok (.aload_n 0, 1) := by decide +kernel
theorem d_G_follow_23 : decode b_G_follow 23 = .ok (.getfield 15, 3) := by decide +kernel
theorem d_G_follow_26 : decode b_G_follow 26 = .ok (.iload_n 2, 1) := by decide +kernel
theorem d_G_follow_27 : decode b_G_follow 27 = .ok (.iaload, 1) := by decide +kernel
theorem d_G_follow_28 : decode b_G_follow 28 = .ok (.invokevirtual 41, 3) := by decide +kernel
theorem d_G_follow_31 : decode b_G_follow 31 = .ok (.invokevirtual 45, 3) := by decide +kernel
theorem d_G_follow_34 : decode b_G_follow 34 = .ok (.istore 4, 2) := by decide +kernel
theorem d_G_follow_36 : decode b_G_follow 36 = .ok (.iload_n 1, 1) := by decide +kernel
theorem d_G_follow_37 : decode b_G_follow 37 = .ok (.bipush 6, 2) := by decide +kernel
theorem d_G_follow_39 : decode b_G_follow 39 = .ok (.if_icmp .ge 10, 3) := by decide +kernel
theorem d_G_follow_42 : decode b_G_follow 42 = .ok (.iload_n 1, 1) := by decide +kernel
theorem d_G_follow_43 : decode b_G_follow 43 = .ok (.bipush 6, 2) := by decide +kernel
theorem d_G_follow_45 : decode b_G_follow 45 = .ok (.iadd, 1) := by decide +kernel
theorem d_G_follow_46 : decode b_G_follow 46 = .ok (.goto 7, 3) := by decide +kernel
theorem d_G_follow_49 : decode b_G_follow 49 = .ok (.iload_n 1, 1) := by decide +kernel
theorem d_G_follow_50 : decode b_G_follow 50 = .ok (.bipush 6, 2) := by decide +kernel
theorem d_G_follow_52 : decode b_G_follow 52 = .ok (.isub, 1) := by decide +kernel
theorem d_G_follow_53 : decode b_G_follow 53 = .ok (.istore 5, 2) := by decide +kernel
theorem d_G_follow_55 : decode b_G_follow 55 = .ok (.aload_n 0, 1) := by decide +kernel
theorem d_G_follow_56 : decode b_G_follow 56 = .ok (.getfield 21, 3) := by decide +kernel
theorem d_G_follow_59 : decode b_G_follow 59 = .ok (.iload_n 1, 1) := by decide +kernel
theorem d_G_follow_60 : decode b_G_follow 60 = .ok (.aaload, 1) := by decide +kernel
theorem d_G_follow_61 : decode b_G_follow 61 = .ok (.iload_n 2, 1) := by decide +kernel
theorem d_G_follow_62 : decode b_G_follow 62 = .ok (.iload 4, 2) := by decide +kernel
theorem d_G_follow_64 : decode b_G_follow 64 = .ok (.iastore, 1) := by decide +kernel
theorem d_G_follow_65 : decode b_G_follow 65 = .ok (.aload_n 0, 1) := by decide +kernel
theorem d_G_follow_66 : decode b_G_follow 66 = .ok (.getfield 21, 3) := by decide +kernel
theorem d_G_follow_69 : decode b_G_follow 69 = .ok (.iload 5, 2) := by decide +kernel
theorem d_G_follow_71 : decode b_G_follow 71 = .ok (.aaload, 1) := by decide +kernel
theorem d_G_follow_72 : decode b_G_follow 72 = .ok (.iload 4, 2) := by decide +kernel
theorem d_G_follow_74 : decode b_G_follow 74 = .ok (.iload_n 2, 1) := by decide +kernel
theorem d_G_follow_75 : decode b_G_follow 75 = .ok (.iastore, 1) := by decide +kernel
theorem d_G_follow_76 : decode b_G_follow 76 = .ok (.iload 4, 2) := by decide +kernel
theorem d_G_follow_78 : decode b_G_follow 78 = .ok (.ireturn, 1) := by decide +kernel
theorem d_G_dropAll_0 : decode b_G_dropAll 0 = .ok (.aload_n 0, 1) := by decide +kernel
theorem d_G_dropAll_1 : decode b_G_dropAll 1 = .ok (.getfield 31, 3) := by decide +kernel
theorem d_G_dropAll_4 : decode b_G_dropAll 4 = .ok (.iconst 1, 1) := by decide +kernel
theorem d_G_dropAll_5 : decode b_G_dropAll 5 = .ok (.isub, 1) := by decide +kernel
theorem d_G_dropAll_6 : decode b_G_dropAll 6 = .ok (.istore_n 1, 1) := by decide +kernel
theorem d_G_dropAll_7 : decode b_G_dropAll 7 = .ok (.iload_n 1, 1) := by decide +kernel
theorem d_G_dropAll_8 : decode b_G_dropAll 8 = .ok (.ifCond .lt 25, 3) := by decide +kernel
theorem d_G_dropAll_11 : decode b_G_dropAll 11 = .ok (.aload_n 0, 1) := by decide +kernel
theorem d_G_dropAll_12 : decode b_G_dropAll 12 = .ok (.getfield 24, 3) := by decide +kernel
theorem d_G_dropAll_15 : decode b_G_dropAll 15 = .ok (.aload_n 0, 1) := by decide +kernel
theorem d_G_dropAll_16 : decode b_G_dropAll 16 = .ok (.aload_n 0, 1) := by decide +kernel
theorem d_G_dropAll_17 : decode b_G_dropAll 17 = .ok (.getfield 15, 3) := by decide +kernel
theorem d_G_dropAll_20 : decode b_G_dropAll 20 = .ok (.iload_n 1, 1) := by decide +kernel
theorem d_G_dropAll_21 : decode b_G_dropAll 21 = .ok (.iaload, 1) := by decide +kernel
theorem d_G_dropAll_22 : decode b_G_dropAll 22 = .ok (.invokevirtual 34, 3) := by decide +kernel
theorem d_G_dropAll_25 : decode b_G_dropAll 25 = .ok (.iconst 0, 1) := by decide +kernel
theorem d_G_dropAll_26 : decode b_G_dropAll 26 = .ok (.iastore, 1) := by decide +kernel
theorem d_G_dropAll_27 : decode b_G_dropAll 27 = .ok (.iinc 1 (-1), 3) := by decide +kernel
theorem d_G_dropAll_30 : decode b_G_dropAll 30 = .ok (.goto (-23), 3) := by decide +kernel
theorem d_G_dropAll_33 : decode b_G_dropAll 33 = .ok (.aload_n 0, 1) := by decide +kernel
theorem d_G_dropAll_34 : decode b_G_dropAll 34 = .ok (.iconst 0, 1) := by decide +kernel
theorem d_G_dropAll_35 : decode b_G_dropAll 35 = .ok (.putfield 31, 3) := by decide +kernel
theorem d_G_dropAll_38 : decode b_G_dropAll 38 = .ok (.return_, 1) := by decide +kernel
theorem kw_6 : (Cond.selects "TwoEndSearch$Graph" ⟨"TwoEndSearch$Graph", "slotOf", "(I)I"⟩ ⟨"TwoEndSearch$Graph", "slotOf", "(I)I"⟩ : Cond) ∈ bigW := bigW_of 6 (by decide +kernel) (by decide +kernel)
theorem kw_34 : (Cond.initialized "TwoEndSearch$Graph" : Cond) ∈ bigW := bigW_of 34 (by decide +kernel) (by decide +kernel)
theorem kw_96 : (Cond.fieldLink "TwoEndSearch$Graph" 9 "TwoEndSearch$Graph" "moves" "LTwoEndSearch$Moves;" : Cond) ∈ bigW := bigW_of 96 (by decide +kernel) (by decide +kernel)
theorem kw_98 : (Cond.fieldLink "TwoEndSearch$Graph" 15 "TwoEndSearch$Graph" "states" "[I" : Cond) ∈ bigW := bigW_of 98 (by decide +kernel) (by decide +kernel)
theorem kw_99 : (Cond.fieldLink "TwoEndSearch$Graph" 24 "TwoEndSearch$Graph" "slots" "[I" : Cond) ∈ bigW := bigW_of 99 (by decide +kernel) (by decide +kernel)
theorem kw_100 : (Cond.fieldLink "TwoEndSearch$Graph" 27 "TwoEndSearch$Graph" "hashShift" "I" : Cond) ∈ bigW := bigW_of 100 (by decide +kernel) (by decide +kernel)
theorem kw_101 : (Cond.fieldLink "TwoEndSearch$Graph" 21 "TwoEndSearch$Graph" "links" "[[I" : Cond) ∈ bigW := bigW_of 101 (by decide +kernel) (by decide +kernel)
theorem kw_102 : (Cond.fieldLink "TwoEndSearch$Graph" 31 "TwoEndSearch$Graph" "count" "I" : Cond) ∈ bigW := bigW_of 102 (by decide +kernel) (by decide +kernel)
theorem kw_310 : (Cond.methodLink "TwoEndSearch$Graph" 34 ⟨"TwoEndSearch$Graph", "slotOf", "(I)I"⟩ : Cond) ∈ bigW := bigW_of 310 (by decide +kernel) (by decide +kernel)
theorem kw_312 : (Cond.instanceMethod ⟨"TwoEndSearch$Graph", "slotOf", "(I)I"⟩ : Cond) ∈ bigW := bigW_of 312 (by decide +kernel) (by decide +kernel)
theorem kw_313 : (Cond.code ⟨"TwoEndSearch$Graph", "slotOf", "(I)I"⟩ prog_3_method_5_code 5 (some .int) : Cond) ∈ bigW := bigW_of 313 (by decide +kernel) (by decide +kernel)
theorem kw_314 : (Cond.constant "TwoEndSearch$Graph" 48 (-1640531535) : Cond) ∈ bigW := bigW_of 314 (by decide +kernel) (by decide +kernel)
theorem kw_316 : (Cond.instanceMethod ⟨"TwoEndSearch$Graph", "enter", "(I)I"⟩ : Cond) ∈ bigW := bigW_of 316 (by decide +kernel) (by decide +kernel)
theorem kw_317 : (Cond.selects "TwoEndSearch$Graph" ⟨"TwoEndSearch$Graph", "enter", "(I)I"⟩ ⟨"TwoEndSearch$Graph", "enter", "(I)I"⟩ : Cond) ∈ bigW := bigW_of 317 (by decide +kernel) (by decide +kernel)
theorem kw_318 : (Cond.code ⟨"TwoEndSearch$Graph", "enter", "(I)I"⟩ prog_3_method_3_code 4 (some .int) : Cond) ∈ bigW := bigW_of 318 (by decide +kernel) (by decide +kernel)
theorem kw_367 : (Cond.methodLink "TwoEndSearch$Graph" 41 ⟨"TwoEndSearch$Moves", "bring", "(II)I"⟩ : Cond) ∈ bigW := bigW_of 367 (by decide +kernel) (by decide +kernel)
theorem kw_368 : (Cond.methodLink "TwoEndSearch$Graph" 45 ⟨"TwoEndSearch$Graph", "enter", "(I)I"⟩ : Cond) ∈ bigW := bigW_of 368 (by decide +kernel) (by decide +kernel)
def po_G_slotOf (q : wz_Q) (ag : Nat → Nat) (mr n b cn : Nat) (rl : Nat → Nat) (st sl : Nat → Int32) (G : List Nat) (sf : Nat → Nat) (cd : Nat) : Int32 → wz_G → Prop := fun v w => w = [gq_W q ag mr (pz_fact n) (2 ^ b) (32 - b) rl st sl cn] ∧ ∃ j, j < 2 ^ b ∧ v = nI ((gq_hh b cd + j) % 2 ^ b) ∧ pz_stop (2 ^ b) (gq_hh b) G sf cd j ∧ ∀ i, i < j → ¬ pz_stop (2 ^ b) (gq_hh b) G sf cd i
set_option maxHeartbeats 4000000 in
set_option maxRecDepth 100000 in
/-- the slot that has a state, or the free one that it would get -/
theorem c_G_slotOf (l : Launch) (D : va_G) (q : wz_Q) (ag : Nat → Nat) (mr n b cn : Nat) (rl : Nat → Nat) (st sl : Nat → Int32) (G : List Nat) (sf : Nat → Nat) (cd : Nat) (hn : n ≤ 8) (hb0 : 0 < b) (hb30 : b ≤ 30) (hM : pz_fact n < 2 ^ b) (hst : ∀ i x, G[i]? = some x → st i = nI x) (hsl : ∀ j, j < 2 ^ b → sl j = nI (sf j)) (ht : pz_ht (2 ^ b) (gq_hh b) G sf) (hG : G.length ≤ pz_fact n) (hcd : cd < 2 ^ 24) (hx24 : ∀ x, x ∈ G → x < 2 ^ 24) : wz_Mi l y_G_slotOf ws_G_slotOf ({ frames := 0, cells := 0, slots := 0, locals := 0 } : Room) D q ([.ref (ag 0), .int (nI cd)] : List Value) [gq_W q ag mr (pz_fact n) (2 ^ b) (32 - b) rl st sl cn] (po_G_slotOf q ag mr n b cn rl st sl G sf cd) 0 0 := by
  intro sz9
  refine wz_enter (cc := b_G_slotOf) (maxL := 5) (ret := (some .int)) (Qc := fun A => (va_Qi (po_G_slotOf q ag mr n b cn rl st sl G sf cd) (wz_At D q A) A)) (by decide) (Nat.le_of_ble_eq_true rfl) ?_
  intro p e s m below meth c A ls C hP hD hS hl
  obtain ⟨hx, hb, hr, hml, hlocks, hown, hts, hN, hK, hA, hnm⟩ := C
  have hown : s.vm.findClass "TwoEndSearch$Graph" = some m.cls := hown
  have hl : lv_has ls 5 [(0, .ref (ag 0)), (1, .int (nI cd))] := hl
  have hp31 := gq_p31 hb30
  have hfl := pz_fact_le hn
  have hp0 : 0 < 2 ^ b := Nat.pow_pos (by decide)
  refine lv_iload_n hx hb d_G_slotOf_0 rfl (lv_at hl 1 rfl) ?_
  refine lv_ldc (v := (-1640531535)) hx hb hown (hts _ kw_314) d_G_slotOf_1 ?_
  refine lv_imul hx hb d_G_slotOf_3 ?_
  refine lv_aload_n hx hb d_G_slotOf_4 rfl (lv_at hl 0 rfl) ?_
  refine wz_get (v := .int (nI (32 - b))) (T := T_G) (N := 6) hx hb hts i_G hown hK hP 0 0 rfl rfl rfl 3 (by decide) (hts _ kw_100) rfl rfl d_G_slotOf_5 ?_
  refine lv_iushr (v := nI ((gq_hh b cd + 0) % 2 ^ b)) hx hb d_G_slotOf_8 (gq_hash hb0 hb30) ?_
  refine lv_istore_n (lv' := [(2, .int (nI ((gq_hh b cd + 0) % 2 ^ b))), (0, .ref (ag 0)), (1, .int (nI cd))]) hx hb d_G_slotOf_9 rfl hl (by decide) rfl (fun ls hl => ?_)
  refine lv_iconst (v := nI 0) hx hb d_G_slotOf_10 (by decide) ?_
  refine lv_istore_n (lv' := [(3, .int (nI 0)), (2, .int (nI ((gq_hh b cd + 0) % 2 ^ b))), (0, .ref (ag 0)), (1, .int (nI cd))]) hx hb d_G_slotOf_11 rfl hl (by decide) rfl (fun ls hl => ?_)
  have loop : ∀ (d : Nat) (j : Nat), j ≤ 2 ^ b → 2 ^ b + 1 ≤ j + d → (∀ i, i < j → ¬ pz_stop (2 ^ b) (gq_hh b) G sf cd i) → ∀ (H : Heap) (locs : List Loc) (ls : Array Slot), va_P D vwCl ([gq_W q ag mr (pz_fact n) (2 ^ b) (32 - b) rl st sl cn] : wz_G).flatten H → va_D A ([gq_W q ag mr (pz_fact n) (2 ^ b) (32 - b) rl st sl cn] : wz_G).flatten → va_S A s.heap H locs → lv_has ls 5 [(0, .ref (ag 0)), (1, .int (nI cd)), (2, .int (nI ((gq_hh b cd + j) % 2 ^ b))), (3, .int (nI j))] → W p l e ({ frames := 0, cells := 0, slots := 0, locals := 0 } : Room) s m ([.ref (ag 0), .int (nI cd)] : List Value).toArray below meth c H locs 0 0 (MQ below (va_Qi (po_G_slotOf q ag mr n b cn rl st sl G sf cd) (wz_At D q A) A) ([.ref (ag 0), .int (nI cd)] : List Value).toArray s 0 0 A) (F0 m 12 ls []) := by
    intro d
    induction d with
    | zero =>
      intro j hj hd hno
      omega
    | succ d ih =>
      intro j hj hd hno H locs ls hP hD hS hl
      refine lv_iload_n hx hb d_G_slotOf_12 rfl (lv_at hl 3 rfl) ?_
      refine lv_aload_n hx hb d_G_slotOf_13 rfl (lv_at hl 0 rfl) ?_
      refine wz_get (v := .ref (ag 2)) (T := T_G) (N := 6) hx hb hts i_G hown hK hP 0 0 rfl rfl rfl 2 (by decide) (hts _ kw_99) rfl rfl d_G_slotOf_14 ?_
      refine wz_alen hx hb hK hP 0 2 (n := 2 ^ b) rfl rfl d_G_slotOf_17 ?_
      refine wz_ge (tgt := 67) hx hb d_G_slotOf_18 (by decide) (by omega) (by omega) (fun hc => ?_) (fun hc => ?_)
      · skip
        obtain ⟨i, h1, h2⟩ := pz_ht_stop ht (by omega) (gq_hh_lt hb30) (x := cd)
        exact absurd h2 (hno i (by omega))
      · skip
        have hk : ((gq_hh b cd + j) % 2 ^ b) < 2 ^ b := Nat.mod_lt _ hp0
        have hv : sf ((gq_hh b cd + j) % 2 ^ b) ≤ G.length := by
          by_cases e0 : sf ((gq_hh b cd + j) % 2 ^ b) = 0
          · omega
          · obtain ⟨x, hx⟩ := ht.1 _ hk e0
            have := (List.getElem?_eq_some_iff.mp hx).1
            omega
        refine lv_aload_n hx hb d_G_slotOf_21 rfl (lv_at hl 0 rfl) ?_
        refine wz_get (v := .ref (ag 2)) (T := T_G) (N := 6) hx hb hts i_G hown hK hP 0 0 rfl rfl rfl 2 (by decide) (hts _ kw_99) rfl rfl d_G_slotOf_22 ?_
        refine lv_iload_n hx hb d_G_slotOf_25 rfl (lv_at hl 2 rfl) ?_
        refine wz_iald hx hb hK hP 0 2 (j := ((gq_hh b cd + j) % 2 ^ b)) rfl rfl (by omega) (by omega) d_G_slotOf_26 ?_
        refine wz_topi (y := nI (sf ((gq_hh b cd + j) % 2 ^ b))) (hsl _ hk) ?_
        refine lv_istore (lv' := [(4, .int (nI (sf ((gq_hh b cd + j) % 2 ^ b)))), (0, .ref (ag 0)), (1, .int (nI cd)), (2, .int (nI ((gq_hh b cd + j) % 2 ^ b))), (3, .int (nI j))]) hx hb d_G_slotOf_27 hl (by decide) rfl (fun ls hl => ?_)
        refine lv_iload hx hb d_G_slotOf_29 (lv_at hl 0 rfl) ?_
        refine lv_if_eq (tgt := 47) hx hb d_G_slotOf_31 (by decide) (fun hc2 => ?_) (fun hc2 => ?_)
        · skip
          refine lv_iload_n hx hb d_G_slotOf_47 rfl (lv_at hl 3 rfl) ?_
          exact wz_iret hx hb hr hlocks hK hP hD hS d_G_slotOf_48 ⟨rfl, j, hc, rfl, Or.inl ((nI_eq (by omega) (by omega)).mp (hc2.trans nI_0.symm)), hno⟩
        · skip
          have hne : sf ((gq_hh b cd + j) % 2 ^ b) ≠ 0 := fun e0 => hc2 (by rw [e0]; rfl)
          obtain ⟨x, hgx⟩ := ht.1 _ hk hne
          have hxl := (List.getElem?_eq_some_iff.mp hgx).1
          have hx2 := hx24 x (List.mem_of_getElem? hgx)
          refine lv_aload_n hx hb d_G_slotOf_34 rfl (lv_at hl 1 rfl) ?_
          refine wz_get (v := .ref (ag 1)) (T := T_G) (N := 6) hx hb hts i_G hown hK hP 0 0 rfl rfl rfl 1 (by decide) (hts _ kw_98) rfl rfl d_G_slotOf_35 ?_
          refine lv_iload hx hb d_G_slotOf_38 (lv_at hl 0 rfl) ?_
          refine lv_iconst (v := nI 1) hx hb d_G_slotOf_40 (by decide) ?_
          refine lv_isub hx hb d_G_slotOf_41 ?_
          refine wz_topi (y := nI (sf ((gq_hh b cd + j) % 2 ^ b) - 1)) (pk_sub (by omega)) ?_
          refine wz_iald hx hb hK hP 0 1 (j := (sf ((gq_hh b cd + j) % 2 ^ b) - 1)) rfl rfl (by omega) (by omega) d_G_slotOf_42 ?_
          refine wz_topi (y := nI x) (hst _ x hgx) ?_
          refine lv_iload_n hx hb d_G_slotOf_43 rfl (lv_at hl 2 rfl) ?_
          refine wz_ne (tgt := 49) hx hb d_G_slotOf_44 (by decide) (by omega) (by omega) (fun hc3 => ?_) (fun hc3 => ?_)
          · skip
            refine lv_iload_n hx hb d_G_slotOf_49 rfl (lv_at hl 3 rfl) ?_
            refine lv_iconst (v := nI 1) hx hb d_G_slotOf_50 (by decide) ?_
            refine lv_iadd hx hb d_G_slotOf_51 ?_
            refine wz_topi (y := nI (((gq_hh b cd + j) % 2 ^ b) + 1)) (nI_add ((gq_hh b cd + j) % 2 ^ b) 1) ?_
            refine lv_aload_n hx hb d_G_slotOf_52 rfl (lv_at hl 1 rfl) ?_
            refine wz_get (v := .ref (ag 2)) (T := T_G) (N := 6) hx hb hts i_G hown hK hP 0 0 rfl rfl rfl 2 (by decide) (hts _ kw_99) rfl rfl d_G_slotOf_53 ?_
            refine wz_alen hx hb hK hP 0 2 (n := 2 ^ b) rfl rfl d_G_slotOf_56 ?_
            refine lv_iconst (v := nI 1) hx hb d_G_slotOf_57 (by decide) ?_
            refine lv_isub hx hb d_G_slotOf_58 ?_
            refine wz_topi (y := nI (2 ^ b - 1)) (pk_sub (by omega)) ?_
            refine lv_iand hx hb d_G_slotOf_59 ?_
            refine wz_topi (y := nI ((gq_hh b cd + (j + 1)) % 2 ^ b)) (gq_next hb30) ?_
            refine lv_istore_n (lv' := [(2, .int (nI ((gq_hh b cd + (j + 1)) % 2 ^ b))), (4, .int (nI (sf ((gq_hh b cd + j) % 2 ^ b)))), (0, .ref (ag 0)), (1, .int (nI cd)), (3, .int (nI j))]) hx hb d_G_slotOf_60 rfl hl (by decide) rfl (fun ls hl => ?_)
            refine lv_iinc (v := nI (j + 1)) (lv' := [(3, .int (nI (j + 1))), (2, .int (nI ((gq_hh b cd + (j + 1)) % 2 ^ b))), (4, .int (nI (sf ((gq_hh b cd + j) % 2 ^ b)))), (0, .ref (ag 0)), (1, .int (nI cd))]) hx hb d_G_slotOf_61 hl (k := 4) rfl (nI_1 j) (by decide) rfl (fun ls hl => ?_)
            refine lv_goto (tgt := 12) hx hb d_G_slotOf_64 (by decide) ?_
            exact ih (j + 1) (by omega) (by omega) (fun i hi hs => by
              by_cases e0 : i = j
              · subst e0
                rcases hs with q | q
                · exact hne q
                · exact hc3 (Option.some.inj (hgx.symm.trans q))
              · exact hno i (by omega) hs) _ _ _ hP hD hS (lv_sub hl [3, 4, 1, 0] rfl)
          · skip
            refine lv_iload_n hx hb d_G_slotOf_47 rfl (lv_at hl 3 rfl) ?_
            exact wz_iret hx hb hr hlocks hK hP hD hS d_G_slotOf_48 ⟨rfl, j, hc, rfl, Or.inr (hgx.trans (congrArg some hc3)), hno⟩
  exact loop (2 ^ b + 1) 0 (by omega) (by omega) (fun i h0 => absurd h0 (by omega)) _ _ _ hP hD hS (lv_sub hl [2, 3, 1, 0] rfl)
def po_G_enter (q : wz_Q) (ag am : Nat → Nat) (n b k : Nat) (rl rt : Nat → Nat) (fo st sl : Nat → Int32) (L : Nat → Nat → Int32) (sg tu : Nat → Nat → Nat) (G : List Nat) (a0 cd : Nat) : Int32 → wz_G → Prop := fun v w => ∃ (G' : List Nat) (st' sl' : Nat → Int32) (L' : Nat → Nat → Int32) (c9 j : Nat), w = [gq_W q ag (am 0) (pz_fact n) (2 ^ b) (32 - b) rl st' sl' c9, wz_rows 12 rl (fun i9 => .inl (q.1, pz_fact n, .inl (L' i9))), mv_W q am n k rt fo] ∧ v = nI j ∧ c9 = G'.length ∧ G'[j]? = some cd ∧ (∃ Nw, G' = G ++ Nw) ∧ gq_ok n a0 b k sg tu G' st' sl' L'
set_option maxHeartbeats 4000000 in
set_option maxRecDepth 100000 in
/-- the number of a state, a new one if it has none -/
theorem c_G_enter (l : Launch) (D : va_G) (q : wz_Q) (ag am : Nat → Nat) (n b k : Nat) (rl rt : Nat → Nat) (fo st sl : Nat → Int32) (L : Nat → Nat → Int32) (sg tu : Nat → Nat → Nat) (G : List Nat) (a0 cd : Nat) (hn : n ≤ 8) (hb0 : 0 < b) (hb30 : b ≤ 30) (hM : pz_fact n < 2 ^ b) (hk : k ≤ 6) (hok : gq_ok n a0 b k sg tu G st sl L) (hcd : pz_arr n a0 cd) : wz_Mi l y_G_enter ws_G_enter ({ frames := 1, cells := 0, slots := 0, locals := 24 } : Room) D q ([.ref (ag 0), .int (nI cd)] : List Value) [gq_W q ag (am 0) (pz_fact n) (2 ^ b) (32 - b) rl st sl G.length, wz_rows 12 rl (fun i9 => .inl (q.1, pz_fact n, .inl (L i9))), mv_W q am n k rt fo] (po_G_enter q ag am n b k rl rt fo st sl L sg tu G a0 cd) 0 0 := by
  intro sz9
  refine wz_enter (cc := b_G_enter) (maxL := 4) (ret := (some .int)) (Qc := fun A => (va_Qi (po_G_enter q ag am n b k rl rt fo st sl L sg tu G a0 cd) (wz_At D q A) A)) (by decide) (Nat.le_of_ble_eq_true rfl) ?_
  intro p e s m below meth c A ls C hP hD hS hl
  obtain ⟨hx, hb, hr, hml, hlocks, hown, hts, hN, hK, hA, hnm⟩ := C
  have hown : s.vm.findClass "TwoEndSearch$Graph" = some m.cls := hown
  have hl : lv_has ls 4 [(0, .ref (ag 0)), (1, .int (nI cd))] := hl
  have hp31 := gq_p31 hb30
  have hfl := pz_fact_le hn
  have hp0 : 0 < 2 ^ b := Nat.pow_pos (by decide)
  have hGl := gq_len hok
  obtain ⟨sf, hsl, ht⟩ := hok.2.2.2.1
  have hcl := pz_lt31 hn hcd.1
  refine lv_aload_n hx hb d_G_enter_0 rfl (lv_at hl 0 rfl) ?_
  refine lv_iload_n hx hb d_G_enter_1 rfl (lv_at hl 1 rfl) ?_
  have hQ := wz_split (n := 3) (gc := [gq_W q ag (am 0) (pz_fact n) (2 ^ b) (32 - b) rl st sl G.length]) (gr := [wz_rows 12 rl (fun i9 => .inl (q.1, pz_fact n, .inl (L i9))), mv_W q am n k rt fo]) [0] [1, 2] rfl (by decide) rfl rfl hP hD
  refine wz_calli (va_runV (As := [.int (nI cd)]) (rest := []) ⟨hx, hb, hml, hown, hts⟩ (c_G_slotOf l D q ag (am 0) n b G.length rl st sl G sf cd hn hb0 hb30 hM hok.2.2.1 hsl ht hGl hcl (fun x hx9 => pz_lt31 hn (hok.2.1 x hx9).1) _) (cwV 1 hts (wz_goodV kw_310 kw_312 kw_6 kw_34 kw_313) rfl rfl rfl (by decide +kernel) ⟨Nat.le_of_ble_eq_true rfl, Nat.le_of_ble_eq_true rfl⟩) (wz_preV (gi := 0) (k := 0) hN hK hQ wz_L_ok rfl rfl rfl) rfl rfl hl.1 rfl (lv_room (Nat.le_of_ble_eq_true rfl)) d_G_enter_2 ⟨Nat.le_of_ble_eq_true rfl, Nat.le_of_ble_eq_true rfl⟩) hQ hS hA (fun v_2 gx H locs hp hP hD hS => ?_)
  obtain ⟨rfl, j, hj, rfl, hstop, hleast⟩ := hp
  obtain ⟨hP, hD⟩ := wz_ord (n := 3) (gs' := [gq_W q ag (am 0) (pz_fact n) (2 ^ b) (32 - b) rl st sl G.length, wz_rows 12 rl (fun i9 => .inl (q.1, pz_fact n, .inl (L i9))), mv_W q am n k rt fo]) [0, 1, 2] rfl (by decide) rfl hP hD
  have hk9 : ((gq_hh b cd + j) % 2 ^ b) < 2 ^ b := Nat.mod_lt _ hp0
  have hv9 : sf ((gq_hh b cd + j) % 2 ^ b) ≤ G.length := by
    by_cases e0 : sf ((gq_hh b cd + j) % 2 ^ b) = 0
    · omega
    · obtain ⟨x, hx9⟩ := ht.1 _ hk9 e0
      have := (List.getElem?_eq_some_iff.mp hx9).1
      omega
  refine lv_istore_n (lv' := [(2, .int (nI ((gq_hh b cd + j) % 2 ^ b))), (0, .ref (ag 0)), (1, .int (nI cd))]) hx hb d_G_enter_5 rfl hl (by decide) rfl (fun ls hl => ?_)
  refine lv_aload_n hx hb d_G_enter_6 rfl (lv_at hl 1 rfl) ?_
  refine wz_get (v := .ref (ag 2)) (T := T_G) (N := 6) hx hb hts i_G hown hK hP 0 0 rfl rfl rfl 2 (by decide) (hts _ kw_99) rfl rfl d_G_enter_7 ?_
  refine lv_iload_n hx hb d_G_enter_10 rfl (lv_at hl 0 rfl) ?_
  refine wz_iald hx hb hK hP 0 2 (j := ((gq_hh b cd + j) % 2 ^ b)) rfl rfl (by omega) (by omega) d_G_enter_11 ?_
  refine wz_topi (y := nI (sf ((gq_hh b cd + j) % 2 ^ b))) (hsl _ hk9) ?_
  refine lv_if_eq (tgt := 24) hx hb d_G_enter_12 (by decide) (fun hc => ?_) (fun hc => ?_)
  · skip
    have h0 : sf ((gq_hh b cd + j) % 2 ^ b) = 0 := (nI_eq (by omega) (by omega)).mp (hc.trans nI_0.symm)
    have hnew : cd ∉ G := fun hm => by
      obtain ⟨i, hi⟩ := List.getElem?_of_mem hm
      have := pz_ht_in ht hok.1 hp0 hi hstop hleast
      omega
    have hroom := gq_room hok hcd hnew
    refine lv_aload_n hx hb d_G_enter_24 rfl (lv_at hl 1 rfl) ?_
    refine wz_get (v := .int (nI G.length)) (T := T_G) (N := 6) hx hb hts i_G hown hK hP 0 0 rfl rfl rfl 5 (by decide) (hts _ kw_102) rfl rfl d_G_enter_25 ?_
    refine lv_aload_n hx hb d_G_enter_28 rfl (lv_at hl 1 rfl) ?_
    refine wz_get (v := .ref (ag 1)) (T := T_G) (N := 6) hx hb hts i_G hown hK hP 0 0 rfl rfl rfl 1 (by decide) (hts _ kw_98) rfl rfl d_G_enter_29 ?_
    refine wz_alen hx hb hK hP 0 1 (n := pz_fact n) rfl rfl d_G_enter_32 ?_
    refine wz_lt (tgt := 38) hx hb d_G_enter_33 (by decide) (by omega) (by omega) (fun hc2 => ?_) (fun hc2 => ?_)
    · skip
      refine lv_aload_n hx hb d_G_enter_38 rfl (lv_at hl 1 rfl) ?_
      refine wz_get (v := .ref (ag 1)) (T := T_G) (N := 6) hx hb hts i_G hown hK hP 0 0 rfl rfl rfl 1 (by decide) (hts _ kw_98) rfl rfl d_G_enter_39 ?_
      refine lv_aload_n hx hb d_G_enter_42 rfl (lv_at hl 1 rfl) ?_
      refine wz_get (v := .int (nI G.length)) (T := T_G) (N := 6) hx hb hts i_G hown hK hP 0 0 rfl rfl rfl 5 (by decide) (hts _ kw_102) rfl rfl d_G_enter_43 ?_
      refine lv_iload_n hx hb d_G_enter_46 rfl (lv_at hl 2 rfl) ?_
      refine wz_iast (gs' := [gq_W q ag (am 0) (pz_fact n) (2 ^ b) (32 - b) rl (upd st G.length (nI cd)) sl G.length, wz_rows 12 rl (fun i9 => .inl (q.1, pz_fact n, .inl (L i9))), mv_W q am n k rt fo]) hx hb hK hP hD hS 0 1 (j := G.length) rfl rfl (by omega) (by omega) d_G_enter_47 rfl (fun H locs hP hD hS => ?_)
      refine lv_iconst (v := nI 0) hx hb d_G_enter_48 (by decide) ?_
      refine lv_istore_n (lv' := [(3, .int (nI 0)), (2, .int (nI ((gq_hh b cd + j) % 2 ^ b))), (0, .ref (ag 0)), (1, .int (nI cd))]) hx hb d_G_enter_49 rfl hl (by decide) rfl (fun ls hl => ?_)
      have loop : ∀ (d : Nat) (i : Nat) (L1 : Nat → Nat → Int32), i ≤ k → k + 1 ≤ i + d → (∀ u, u < i ∨ (6 ≤ u ∧ u < 6 + i) → L1 u G.length = -1) → (∀ u y, y ≠ G.length → L1 u y = L u y) → ∀ (H : Heap) (locs : List Loc) (ls : Array Slot), va_P D vwCl ([gq_W q ag (am 0) (pz_fact n) (2 ^ b) (32 - b) rl (upd st G.length (nI cd)) sl G.length, wz_rows 12 rl (fun i9 => .inl (q.1, pz_fact n, .inl (L1 i9))), mv_W q am n k rt fo] : wz_G).flatten H → va_D A ([gq_W q ag (am 0) (pz_fact n) (2 ^ b) (32 - b) rl (upd st G.length (nI cd)) sl G.length, wz_rows 12 rl (fun i9 => .inl (q.1, pz_fact n, .inl (L1 i9))), mv_W q am n k rt fo] : wz_G).flatten → va_S A s.heap H locs → lv_has ls 4 [(0, .ref (ag 0)), (1, .int (nI cd)), (2, .int (nI ((gq_hh b cd + j) % 2 ^ b))), (3, .int (nI i))] → W p l e ({ frames := 1, cells := 0, slots := 0, locals := 24 } : Room) s m ([.ref (ag 0), .int (nI cd)] : List Value).toArray below meth c H locs 0 0 (MQ below (va_Qi (po_G_enter q ag am n b k rl rt fo st sl L sg tu G a0 cd) (wz_At D q A) A) ([.ref (ag 0), .int (nI cd)] : List Value).toArray s 0 0 A) (F0 m 50 ls []) := by
        intro d
        induction d with
        | zero =>
          intro i L1 hi hd h1 h2
          omega
        | succ d ih =>
          intro i L1 hi hd h1 h2 H locs ls hP hD hS hl
          refine lv_iload_n hx hb d_G_enter_50 rfl (lv_at hl 3 rfl) ?_
          refine lv_aload_n hx hb d_G_enter_51 rfl (lv_at hl 0 rfl) ?_
          refine wz_get (v := .ref (am 0)) (T := T_G) (N := 6) hx hb hts i_G hown hK hP 0 0 rfl rfl rfl 0 (by decide) (hts _ kw_96) rfl rfl d_G_enter_52 ?_
          refine wz_getN (v := .int (nI k)) (T := T_M) (N := 4) hx hb hts i_M hown hK hP 2 0 rfl rfl rfl 3 (by decide) (hN.1 _ (List.mem_of_getElem? (i := 0) rfl)) rfl rfl d_G_enter_55 ?_
          refine wz_ge (tgt := 94) hx hb d_G_enter_58 (by decide) (by omega) (by omega) (fun hc3 => ?_) (fun hc3 => ?_)
          · skip
            refine lv_aload_n hx hb d_G_enter_94 rfl (lv_at hl 0 rfl) ?_
            refine lv_dup hx hb d_G_enter_95 rfl ?_
            refine wz_get (v := .int (nI G.length)) (T := T_G) (N := 6) hx hb hts i_G hown hK hP 0 0 rfl rfl rfl 5 (by decide) (hts _ kw_102) rfl rfl d_G_enter_96 ?_
            refine lv_iconst (v := nI 1) hx hb d_G_enter_99 (by decide) ?_
            refine lv_iadd hx hb d_G_enter_100 ?_
            refine wz_topi (y := nI (G.length + 1)) (nI_add G.length 1) ?_
            refine wz_put (gs' := [gq_W q ag (am 0) (pz_fact n) (2 ^ b) (32 - b) rl (upd st G.length (nI cd)) sl (G.length + 1), wz_rows 12 rl (fun i9 => .inl (q.1, pz_fact n, .inl (L1 i9))), mv_W q am n k rt fo]) (v := .int (nI (G.length + 1))) (T := T_G) (N := 6) hx hb hts i_G t_G t_G_ok n_G hown hK hP hD hS 0 0 rfl rfl rfl 5 (by decide) (hts _ kw_102) rfl rfl (ty := t_G 5) (by decide +kernel) rfl rfl (Nat.le_of_ble_eq_true rfl) d_G_enter_101 rfl (fun H locs hP hD hS => ?_)
            refine lv_aload_n hx hb d_G_enter_104 rfl (lv_at hl 0 rfl) ?_
            refine wz_get (v := .ref (ag 2)) (T := T_G) (N := 6) hx hb hts i_G hown hK hP 0 0 rfl rfl rfl 2 (by decide) (hts _ kw_99) rfl rfl d_G_enter_105 ?_
            refine lv_iload_n hx hb d_G_enter_108 rfl (lv_at hl 2 rfl) ?_
            refine lv_aload_n hx hb d_G_enter_109 rfl (lv_at hl 0 rfl) ?_
            refine wz_get (v := .int (nI (G.length + 1))) (T := T_G) (N := 6) hx hb hts i_G hown hK hP 0 0 rfl rfl rfl 5 (by decide) (hts _ kw_102) rfl rfl d_G_enter_110 ?_
            refine wz_iast (gs' := [gq_W q ag (am 0) (pz_fact n) (2 ^ b) (32 - b) rl (upd st G.length (nI cd)) (upd sl ((gq_hh b cd + j) % 2 ^ b) (nI (G.length + 1))) (G.length + 1), wz_rows 12 rl (fun i9 => .inl (q.1, pz_fact n, .inl (L1 i9))), mv_W q am n k rt fo]) hx hb hK hP hD hS 0 2 (j := ((gq_hh b cd + j) % 2 ^ b)) rfl rfl (by omega) (by omega) d_G_enter_113 rfl (fun H locs hP hD hS => ?_)
            refine lv_aload_n hx hb d_G_enter_114 rfl (lv_at hl 0 rfl) ?_
            refine wz_get (v := .int (nI (G.length + 1))) (T := T_G) (N := 6) hx hb hts i_G hown hK hP 0 0 rfl rfl rfl 5 (by decide) (hts _ kw_102) rfl rfl d_G_enter_115 ?_
            refine lv_iconst (v := nI 1) hx hb d_G_enter_118 (by decide) ?_
            refine lv_isub hx hb d_G_enter_119 ?_
            refine wz_topi (y := nI G.length) (pk_sub (by omega)) ?_
            exact wz_iret hx hb hr hlocks hK hP hD hS d_G_enter_120 ⟨G ++ [cd], _, _, L1, G.length + 1, G.length, rfl, rfl, by simp, by simp, ⟨_, rfl⟩, gq_put hok hcd hnew hsl ht hj h0 hleast (fun u hu => h1 u (by have := hu.1; have := hu.2.1; have := hu.2.2; omega)) h2⟩
          · skip
            refine lv_aload_n hx hb d_G_enter_61 rfl (lv_at hl 0 rfl) ?_
            refine wz_get (v := .ref (ag 3)) (T := T_G) (N := 6) hx hb hts i_G hown hK hP 0 0 rfl rfl rfl 4 (by decide) (hts _ kw_101) rfl rfl d_G_enter_62 ?_
            refine lv_iload_n hx hb d_G_enter_65 rfl (lv_at hl 3 rfl) ?_
            refine wz_aald hx hb hK hP 0 3 (j := i) (r := rl) rfl rfl (by omega) (by decide) d_G_enter_66 ?_
            refine lv_aload_n hx hb d_G_enter_67 rfl (lv_at hl 0 rfl) ?_
            refine wz_get (v := .int (nI G.length)) (T := T_G) (N := 6) hx hb hts i_G hown hK hP 0 0 rfl rfl rfl 5 (by decide) (hts _ kw_102) rfl rfl d_G_enter_68 ?_
            refine lv_iconst (v := (-1)) hx hb d_G_enter_71 (by decide) ?_
            refine wz_iast (gs' := [gq_W q ag (am 0) (pz_fact n) (2 ^ b) (32 - b) rl (upd st G.length (nI cd)) sl G.length, wz_rows 12 rl (fun i9 => .inl (q.1, pz_fact n, .inl ((pz_up L1 i (upd (L1 i) G.length (-1))) i9))), mv_W q am n k rt fo]) hx hb hK hP hD hS 1 i (j := G.length) rfl (wz_rows_get (by omega)) (by omega) (by omega) d_G_enter_72 (by rw [wz_rows_iset]; rfl) (fun H locs hP hD hS => ?_)
            refine lv_aload_n hx hb d_G_enter_73 rfl (lv_at hl 0 rfl) ?_
            refine wz_get (v := .ref (ag 3)) (T := T_G) (N := 6) hx hb hts i_G hown hK hP 0 0 rfl rfl rfl 4 (by decide) (hts _ kw_101) rfl rfl d_G_enter_74 ?_
            refine lv_iload_n hx hb d_G_enter_77 rfl (lv_at hl 3 rfl) ?_
            refine lv_bipush (v := nI 6) hx hb d_G_enter_78 (by decide) ?_
            refine lv_iadd hx hb d_G_enter_80 ?_
            refine wz_topi (y := nI (i + 6)) (nI_add i 6) ?_
            refine wz_aald hx hb hK hP 0 3 (j := (i + 6)) (r := rl) rfl rfl (by omega) (by decide) d_G_enter_81 ?_
            refine lv_aload_n hx hb d_G_enter_82 rfl (lv_at hl 0 rfl) ?_
            refine wz_get (v := .int (nI G.length)) (T := T_G) (N := 6) hx hb hts i_G hown hK hP 0 0 rfl rfl rfl 5 (by decide) (hts _ kw_102) rfl rfl d_G_enter_83 ?_
            refine lv_iconst (v := (-1)) hx hb d_G_enter_86 (by decide) ?_
            refine wz_iast (gs' := [gq_W q ag (am 0) (pz_fact n) (2 ^ b) (32 - b) rl (upd st G.length (nI cd)) sl G.length, wz_rows 12 rl (fun i9 => .inl (q.1, pz_fact n, .inl ((pz_up (pz_up L1 i (upd (L1 i) G.length (-1))) (i + 6) (upd ((pz_up L1 i (upd (L1 i) G.length (-1))) (i + 6)) G.length (-1))) i9))), mv_W q am n k rt fo]) hx hb hK hP hD hS 1 (i + 6) (j := G.length) rfl (wz_rows_get (by omega)) (by omega) (by omega) d_G_enter_87 (by rw [wz_rows_iset]; rfl) (fun H locs hP hD hS => ?_)
            refine lv_iinc (v := nI (i + 1)) (lv' := [(3, .int (nI (i + 1))), (0, .ref (ag 0)), (1, .int (nI cd)), (2, .int (nI ((gq_hh b cd + j) % 2 ^ b)))]) hx hb d_G_enter_88 hl (k := 3) rfl (nI_1 i) (by decide) rfl (fun ls hl => ?_)
            refine lv_goto (tgt := 50) hx hb d_G_enter_91 (by decide) ?_
            exact ih (i + 1) (pz_up (pz_up L1 i (upd (L1 i) G.length (-1))) (i + 6) (upd ((pz_up L1 i (upd (L1 i) G.length (-1))) (i + 6)) G.length (-1))) (by omega) (by omega) (fun u hu => gq_lset1 (fun hu2 => h1 u hu2) hu) (fun u y hy => (gq_lset2 u hy).trans (h2 u y hy)) _ _ _ hP hD hS (lv_sub hl [1, 2, 3, 0] rfl)
      exact loop (k + 1) 0 L (by omega) (by omega) (fun u hu => absurd hu (by omega)) (fun _ _ _ => rfl) _ _ _ hP hD hS (lv_sub hl [2, 3, 1, 0] rfl)
    · skip
      exact absurd hroom (by omega)
  · skip
    have hne : sf ((gq_hh b cd + j) % 2 ^ b) ≠ 0 := fun e0 => hc (by rw [e0]; rfl)
    refine lv_aload_n hx hb d_G_enter_15 rfl (lv_at hl 1 rfl) ?_
    refine wz_get (v := .ref (ag 2)) (T := T_G) (N := 6) hx hb hts i_G hown hK hP 0 0 rfl rfl rfl 2 (by decide) (hts _ kw_99) rfl rfl d_G_enter_16 ?_
    refine lv_iload_n hx hb d_G_enter_19 rfl (lv_at hl 0 rfl) ?_
    refine wz_iald hx hb hK hP 0 2 (j := ((gq_hh b cd + j) % 2 ^ b)) rfl rfl (by omega) (by omega) d_G_enter_20 ?_
    refine wz_topi (y := nI (sf ((gq_hh b cd + j) % 2 ^ b))) (hsl _ hk9) ?_
    refine lv_iconst (v := nI 1) hx hb d_G_enter_21 (by decide) ?_
    refine lv_isub hx hb d_G_enter_22 ?_
    refine wz_topi (y := nI (sf ((gq_hh b cd + j) % 2 ^ b) - 1)) (pk_sub (by omega)) ?_
    exact wz_iret hx hb hr hlocks hK hP hD hS d_G_enter_23 ⟨G, st, sl, L, G.length, sf ((gq_hh b cd + j) % 2 ^ b) - 1, rfl, rfl, rfl, hstop.resolve_left hne, ⟨[], by simp⟩, hok⟩
def po_G_follow (q : wz_Q) (ag am : Nat → Nat) (n b k : Nat) (rl rt : Nat → Nat) (fo st sl : Nat → Int32) (L : Nat → Nat → Int32) (sg tu : Nat → Nat → Nat) (G : List Nat) (M : Nat → Nat → Int32) (od : Nat → Nat) (a0 u i x : Nat) : Int32 → wz_G → Prop := fun v w => ∃ (G' : List Nat) (st' sl' : Nat → Int32) (L' : Nat → Nat → Int32) (c9 j : Nat), w = [gq_W q ag (am 0) (pz_fact n) (2 ^ b) (32 - b) rl st' sl' c9, wz_rows 12 rl (fun i9 => .inl (q.1, pz_fact n, .inl (L' i9))), mv_W q am n k rt fo, wz_rows 12 rt (fun i9 => .inl (q.1, 8, .inl (M i9)))] ∧ v = nI j ∧ c9 = G'.length ∧ G'[j]? = some (pz_act n (gq_in sg tu u) x) ∧ (∃ Nw, G' = G ++ Nw) ∧ gq_ok n a0 b k sg tu G' st' sl' L'
set_option maxHeartbeats 4000000 in
set_option maxRecDepth 100000 in
/-- where a way leads -/
theorem c_G_follow (l : Launch) (D : va_G) (q : wz_Q) (ag am : Nat → Nat) (n b k : Nat) (rl rt : Nat → Nat) (fo st sl : Nat → Int32) (L : Nat → Nat → Int32) (sg tu : Nat → Nat → Nat) (G : List Nat) (M : Nat → Nat → Int32) (od : Nat → Nat) (a0 u i x : Nat) (hn : n ≤ 8) (hb0 : 0 < b) (hb30 : b ≤ 30) (hM : pz_fact n < 2 ^ b) (hk : k ≤ 6) (hok : gq_ok n a0 b k sg tu G st sl L) (hmv : mv_ok n k fo M sg tu od) (hu : gq_way k u) (hi : G[i]? = some x) : wz_Mi l y_G_follow ws_G_follow ({ frames := 2, cells := 0, slots := 0, locals := 47 } : Room) D q ([.ref (ag 0), .int (nI u), .int (nI i)] : List Value) [gq_W q ag (am 0) (pz_fact n) (2 ^ b) (32 - b) rl st sl G.length, wz_rows 12 rl (fun i9 => .inl (q.1, pz_fact n, .inl (L i9))), mv_W q am n k rt fo, wz_rows 12 rt (fun i9 => .inl (q.1, 8, .inl (M i9)))] (po_G_follow q ag am n b k rl rt fo st sl L sg tu G M od a0 u i x) 0 0 := by
  intro sz9
  refine wz_enter (cc := b_G_follow) (maxL := 6) (ret := (some .int)) (Qc := fun A => (va_Qi (po_G_follow q ag am n b k rl rt fo st sl L sg tu G M od a0 u i x) (wz_At D q A) A)) (by decide) (Nat.le_of_ble_eq_true rfl) ?_
  intro p e s m below meth c A ls C hP hD hS hl
  obtain ⟨hx, hb, hr, hml, hlocks, hown, hts, hN, hK, hA, hnm⟩ := C
  have hown : s.vm.findClass "TwoEndSearch$Graph" = some m.cls := hown
  have hl : lv_has ls 6 [(0, .ref (ag 0)), (1, .int (nI u)), (2, .int (nI i))] := hl
  have hp31 := gq_p31 hb30
  have hfl := pz_fact_le hn
  have hGl := gq_len hok
  have hil := (List.getElem?_eq_some_iff.mp hi).1
  have hu12 := hu.1
  have hxa := hok.2.1 x (List.mem_of_getElem? hi)
  refine lv_aload_n hx hb d_G_follow_0 rfl (lv_at hl 0 rfl) ?_
  refine wz_get (v := .ref (ag 3)) (T := T_G) (N := 6) hx hb hts i_G hown hK hP 0 0 rfl rfl rfl 4 (by decide) (hts _ kw_101) rfl rfl d_G_follow_1 ?_
  refine lv_iload_n hx hb d_G_follow_4 rfl (lv_at hl 1 rfl) ?_
  refine wz_aald hx hb hK hP 0 3 (j := u) (r := rl) rfl rfl (by omega) (by decide) d_G_follow_5 ?_
  refine lv_iload_n hx hb d_G_follow_6 rfl (lv_at hl 2 rfl) ?_
  refine wz_iald hx hb hK hP 1 u (j := i) rfl (wz_rows_get (by omega)) (by omega) (by omega) d_G_follow_7 ?_
  refine lv_istore_n (lv' := [(3, .int (L u i)), (0, .ref (ag 0)), (1, .int (nI u)), (2, .int (nI i))]) hx hb d_G_follow_8 rfl hl (by decide) rfl (fun ls hl => ?_)
  refine lv_iload_n hx hb d_G_follow_9 rfl (lv_at hl 0 rfl) ?_
  refine lv_iconst (v := (-1)) hx hb d_G_follow_10 (by decide) ?_
  refine lv_icmp_eq (tgt := 16) hx hb d_G_follow_11 (by decide) (fun hc => ?_) (fun hc => ?_)
  · skip
    refine lv_aload_n hx hb d_G_follow_16 rfl (lv_at hl 1 rfl) ?_
    refine lv_aload_n hx hb d_G_follow_17 rfl (lv_at hl 1 rfl) ?_
    refine wz_get (v := .ref (am 0)) (T := T_G) (N := 6) hx hb hts i_G hown hK hP 0 0 rfl rfl rfl 0 (by decide) (hts _ kw_96) rfl rfl d_G_follow_18 ?_
    refine lv_iload_n hx hb d_G_follow_21 rfl (lv_at hl 2 rfl) ?_
    refine lv_aload_n hx hb d_G_follow_22 rfl (lv_at hl 1 rfl) ?_
    refine wz_get (v := .ref (ag 1)) (T := T_G) (N := 6) hx hb hts i_G hown hK hP 0 0 rfl rfl rfl 1 (by decide) (hts _ kw_98) rfl rfl d_G_follow_23 ?_
    refine lv_iload_n hx hb d_G_follow_26 rfl (lv_at hl 3 rfl) ?_
    refine wz_iald hx hb hK hP 0 1 (j := i) rfl rfl (by omega) (by omega) d_G_follow_27 ?_
    refine wz_topi (y := nI x) (hok.2.2.1 i x hi) ?_
    have hQ := wz_split (n := 4) (gc := [mv_W q am n k rt fo, wz_rows 12 rt (fun i9 => .inl (q.1, 8, .inl (M i9)))]) (gr := [gq_W q ag (am 0) (pz_fact n) (2 ^ b) (32 - b) rl st sl G.length, wz_rows 12 rl (fun i9 => .inl (q.1, pz_fact n, .inl (L i9)))]) [2, 3] [0, 1] rfl (by decide) rfl rfl hP hD
    refine wz_calli (va_runV (As := [.int (nI u), .int (nI x)]) (rest := [.ref (ag 0)]) ⟨hx, hb, hml, hown, hts⟩ (c_M_bring l D q am n k rt fo M u x (gq_out sg tu u) (gq_in sg tu u) hn hu12 hxa.1 (gq_row hmv hu) (gq_perm hmv hu) _) (cwV 2 hts (wz_goodV kw_367 kw_268 kw_269 kw_32 kw_270) rfl rfl rfl (by decide +kernel) ⟨Nat.le_of_ble_eq_true rfl, Nat.le_of_ble_eq_true rfl⟩) (wz_preV (gi := 0) (k := 0) hN hK hQ wz_L_ok rfl rfl rfl) rfl rfl hl.1 rfl (lv_room (Nat.le_of_ble_eq_true rfl)) d_G_follow_28 ⟨Nat.le_of_ble_eq_true rfl, Nat.le_of_ble_eq_true rfl⟩) hQ hS hA (fun v_28 gx H locs hp hP hD hS => ?_)
    obtain ⟨rfl, rfl⟩ := hp
    obtain ⟨hP, hD⟩ := wz_ord (n := 4) (gs' := [gq_W q ag (am 0) (pz_fact n) (2 ^ b) (32 - b) rl st sl G.length, wz_rows 12 rl (fun i9 => .inl (q.1, pz_fact n, .inl (L i9))), mv_W q am n k rt fo, wz_rows 12 rt (fun i9 => .inl (q.1, 8, .inl (M i9)))]) [2, 3, 0, 1] rfl (by decide) rfl hP hD
    have hQ := wz_split (n := 4) (gc := [gq_W q ag (am 0) (pz_fact n) (2 ^ b) (32 - b) rl st sl G.length, wz_rows 12 rl (fun i9 => .inl (q.1, pz_fact n, .inl (L i9))), mv_W q am n k rt fo]) (gr := [wz_rows 12 rt (fun i9 => .inl (q.1, 8, .inl (M i9)))]) [0, 1, 2] [3] rfl (by decide) rfl rfl hP hD
    refine wz_calli (va_runV (As := [.int (nI (pz_act n (gq_in sg tu u) x))]) (rest := []) ⟨hx, hb, hml, hown, hts⟩ (c_G_enter l D q ag am n b k rl rt fo st sl L sg tu G a0 (pz_act n (gq_in sg tu u) x) hn hb0 hb30 hM hk hok (pz_arr_act (gq_perm hmv hu) hxa) _) (cwV 1 hts (wz_goodV kw_368 kw_316 kw_317 kw_34 kw_318) rfl rfl rfl (by decide +kernel) ⟨Nat.le_of_ble_eq_true rfl, Nat.le_of_ble_eq_true rfl⟩) (wz_preV (gi := 0) (k := 0) hN hK hQ wz_L_ok rfl rfl rfl) rfl rfl hl.1 rfl (lv_room (Nat.le_of_ble_eq_true rfl)) d_G_follow_31 ⟨Nat.le_of_ble_eq_true rfl, Nat.le_of_ble_eq_true rfl⟩) hQ hS hA (fun v_31 gx H locs hp hP hD hS => ?_)
    obtain ⟨G', st', sl', L', c9, j, rfl, rfl, rfl, hj, ⟨Nw, hNw⟩, hok'⟩ := hp
    obtain ⟨hP, hD⟩ := wz_ord (n := 4) (gs' := [gq_W q ag (am 0) (pz_fact n) (2 ^ b) (32 - b) rl st' sl' G'.length, wz_rows 12 rl (fun i9 => .inl (q.1, pz_fact n, .inl (L' i9))), mv_W q am n k rt fo, wz_rows 12 rt (fun i9 => .inl (q.1, 8, .inl (M i9)))]) [0, 1, 2, 3] rfl (by decide) rfl hP hD
    have hGl' := gq_len hok'
    have hjl := (List.getElem?_eq_some_iff.mp hj).1
    have hi' : G'[i]? = some x := by rw [hNw, List.getElem?_append_left hil]; exact hi
    have hil' := (List.getElem?_eq_some_iff.mp hi').1
    have hun := (gq_un_way hk hu).1
    refine lv_istore (lv' := [(4, .int (nI j)), (3, .int (L u i)), (0, .ref (ag 0)), (1, .int (nI u)), (2, .int (nI i))]) hx hb d_G_follow_34 hl (by decide) rfl (fun ls hl => ?_)
    refine lv_iload_n hx hb d_G_follow_36 rfl (lv_at hl 3 rfl) ?_
    refine lv_bipush (v := nI 6) hx hb d_G_follow_37 (by decide) ?_
    refine wz_ge (tgt := 49) hx hb d_G_follow_39 (by decide) (by omega) (by omega) (fun hc2 => ?_) (fun hc2 => ?_)
    · skip
      refine lv_iload_n hx hb d_G_follow_49 rfl (lv_at hl 3 rfl) ?_
      refine lv_bipush (v := nI 6) hx hb d_G_follow_50 (by decide) ?_
      refine lv_isub hx hb d_G_follow_52 ?_
      refine wz_topi (y := nI (gq_un u)) ((pk_sub (by omega)).trans (congrArg nI (if_neg (by omega)).symm)) ?_
      refine lv_istore (lv' := [(5, .int (nI (gq_un u))), (4, .int (nI j)), (3, .int (L u i)), (0, .ref (ag 0)), (1, .int (nI u)), (2, .int (nI i))]) hx hb d_G_follow_53 hl (by decide) rfl (fun ls hl => ?_)
      refine lv_aload_n hx hb d_G_follow_55 rfl (lv_at hl 3 rfl) ?_
      refine wz_get (v := .ref (ag 3)) (T := T_G) (N := 6) hx hb hts i_G hown hK hP 0 0 rfl rfl rfl 4 (by decide) (hts _ kw_101) rfl rfl d_G_follow_56 ?_
      refine lv_iload_n hx hb d_G_follow_59 rfl (lv_at hl 4 rfl) ?_
      refine wz_aald hx hb hK hP 0 3 (j := u) (r := rl) rfl rfl (by omega) (by decide) d_G_follow_60 ?_
      refine lv_iload_n hx hb d_G_follow_61 rfl (lv_at hl 5 rfl) ?_
      refine lv_iload hx hb d_G_follow_62 (lv_at hl 1 rfl) ?_
      refine wz_iast (gs' := [gq_W q ag (am 0) (pz_fact n) (2 ^ b) (32 - b) rl st' sl' G'.length, wz_rows 12 rl (fun i9 => .inl (q.1, pz_fact n, .inl ((pz_up L' u (upd (L' u) i (nI j))) i9))), mv_W q am n k rt fo, wz_rows 12 rt (fun i9 => .inl (q.1, 8, .inl (M i9)))]) hx hb hK hP hD hS 1 u (j := i) rfl (wz_rows_get (by omega)) (by omega) (by omega) d_G_follow_64 (by rw [wz_rows_iset]; rfl) (fun H locs hP hD hS => ?_)
      refine lv_aload_n hx hb d_G_follow_65 rfl (lv_at hl 3 rfl) ?_
      refine wz_get (v := .ref (ag 3)) (T := T_G) (N := 6) hx hb hts i_G hown hK hP 0 0 rfl rfl rfl 4 (by decide) (hts _ kw_101) rfl rfl d_G_follow_66 ?_
      refine lv_iload hx hb d_G_follow_69 (lv_at hl 0 rfl) ?_
      refine wz_aald hx hb hK hP 0 3 (j := (gq_un u)) (r := rl) rfl rfl (by omega) (by decide) d_G_follow_71 ?_
      refine lv_iload hx hb d_G_follow_72 (lv_at hl 1 rfl) ?_
      refine lv_iload_n hx hb d_G_follow_74 rfl (lv_at hl 5 rfl) ?_
      refine wz_iast (gs' := [gq_W q ag (am 0) (pz_fact n) (2 ^ b) (32 - b) rl st' sl' G'.length, wz_rows 12 rl (fun i9 => .inl (q.1, pz_fact n, .inl ((pz_up (pz_up L' u (upd (L' u) i (nI j))) (gq_un u) (upd ((pz_up L' u (upd (L' u) i (nI j))) (gq_un u)) j (nI i))) i9))), mv_W q am n k rt fo, wz_rows 12 rt (fun i9 => .inl (q.1, 8, .inl (M i9)))]) hx hb hK hP hD hS 1 (gq_un u) (j := j) rfl (wz_rows_get (by omega)) (by omega) (by omega) d_G_follow_75 (by rw [wz_rows_iset]; rfl) (fun H locs hP hD hS => ?_)
      refine lv_iload hx hb d_G_follow_76 (lv_at hl 1 rfl) ?_
      exact wz_iret hx hb hr hlocks hK hP hD hS d_G_follow_78 ⟨G', st', sl', _, G'.length, j, rfl, rfl, rfl, hj, ⟨Nw, hNw⟩, gq_link hmv hok' hu hi' hj⟩
    · skip
      refine lv_iload_n hx hb d_G_follow_42 rfl (lv_at hl 3 rfl) ?_
      refine lv_bipush (v := nI 6) hx hb d_G_follow_43 (by decide) ?_
      refine lv_iadd hx hb d_G_follow_45 ?_
      refine wz_topi (y := nI (gq_un u)) ((nI_add _ _).trans (congrArg nI (if_pos (by omega)).symm)) ?_
      refine lv_goto (tgt := 53) hx hb d_G_follow_46 (by decide) ?_
      refine lv_istore (lv' := [(5, .int (nI (gq_un u))), (4, .int (nI j)), (3, .int (L u i)), (0, .ref (ag 0)), (1, .int (nI u)), (2, .int (nI i))]) hx hb d_G_follow_53 hl (by decide) rfl (fun ls hl => ?_)
      refine lv_aload_n hx hb d_G_follow_55 rfl (lv_at hl 3 rfl) ?_
      refine wz_get (v := .ref (ag 3)) (T := T_G) (N := 6) hx hb hts i_G hown hK hP 0 0 rfl rfl rfl 4 (by decide) (hts _ kw_101) rfl rfl d_G_follow_56 ?_
      refine lv_iload_n hx hb d_G_follow_59 rfl (lv_at hl 4 rfl) ?_
      refine wz_aald hx hb hK hP 0 3 (j := u) (r := rl) rfl rfl (by omega) (by decide) d_G_follow_60 ?_
      refine lv_iload_n hx hb d_G_follow_61 rfl (lv_at hl 5 rfl) ?_
      refine lv_iload hx hb d_G_follow_62 (lv_at hl 1 rfl) ?_
      refine wz_iast (gs' := [gq_W q ag (am 0) (pz_fact n) (2 ^ b) (32 - b) rl st' sl' G'.length, wz_rows 12 rl (fun i9 => .inl (q.1, pz_fact n, .inl ((pz_up L' u (upd (L' u) i (nI j))) i9))), mv_W q am n k rt fo, wz_rows 12 rt (fun i9 => .inl (q.1, 8, .inl (M i9)))]) hx hb hK hP hD hS 1 u (j := i) rfl (wz_rows_get (by omega)) (by omega) (by omega) d_G_follow_64 (by rw [wz_rows_iset]; rfl) (fun H locs hP hD hS => ?_)
      refine lv_aload_n hx hb d_G_follow_65 rfl (lv_at hl 3 rfl) ?_
      refine wz_get (v := .ref (ag 3)) (T := T_G) (N := 6) hx hb hts i_G hown hK hP 0 0 rfl rfl rfl 4 (by decide) (hts _ kw_101) rfl rfl d_G_follow_66 ?_
      refine lv_iload hx hb d_G_follow_69 (lv_at hl 0 rfl) ?_
      refine wz_aald hx hb hK hP 0 3 (j := (gq_un u)) (r := rl) rfl rfl (by omega) (by decide) d_G_follow_71 ?_
      refine lv_iload hx hb d_G_follow_72 (lv_at hl 1 rfl) ?_
      refine lv_iload_n hx hb d_G_follow_74 rfl (lv_at hl 5 rfl) ?_
      refine wz_iast (gs' := [gq_W q ag (am 0) (pz_fact n) (2 ^ b) (32 - b) rl st' sl' G'.length, wz_rows 12 rl (fun i9 => .inl (q.1, pz_fact n, .inl ((pz_up (pz_up L' u (upd (L' u) i (nI j))) (gq_un u) (upd ((pz_up L' u (upd (L' u) i (nI j))) (gq_un u)) j (nI i))) i9))), mv_W q am n k rt fo, wz_rows 12 rt (fun i9 => .inl (q.1, 8, .inl (M i9)))]) hx hb hK hP hD hS 1 (gq_un u) (j := j) rfl (wz_rows_get (by omega)) (by omega) (by omega) d_G_follow_75 (by rw [wz_rows_iset]; rfl) (fun H locs hP hD hS => ?_)
      refine lv_iload hx hb d_G_follow_76 (lv_at hl 1 rfl) ?_
      exact wz_iret hx hb hr hlocks hK hP hD hS d_G_follow_78 ⟨G', st', sl', _, G'.length, j, rfl, rfl, rfl, hj, ⟨Nw, hNw⟩, gq_link hmv hok' hu hi' hj⟩
  · skip
    obtain ⟨j, hj1, hj2⟩ := (hok.2.2.2.2 u i x hu hi).resolve_left hc
    refine lv_iload_n hx hb d_G_follow_14 rfl (lv_at hl 0 rfl) ?_
    exact wz_iret hx hb hr hlocks hK hP hD hS d_G_follow_15 ⟨G, st, sl, L, G.length, j, rfl, hj1, rfl, hj2, ⟨[], by simp⟩, hok⟩
def po_G_dropAll (q : wz_Q) (ag : Nat → Nat) (mr n b : Nat) (rl : Nat → Nat) (st sl : Nat → Int32) (G : List Nat) (sf : Nat → Nat) : wz_G → Prop := fun w => ∃ (sl' : Nat → Int32) (s' : Nat → Nat), w = [gq_W q ag mr (pz_fact n) (2 ^ b) (32 - b) rl st sl' 0] ∧ (∀ j, j < 2 ^ b → sl' j = nI (s' j)) ∧ pz_ht (2 ^ b) (gq_hh b) [] s'
set_option maxHeartbeats 4000000 in
set_option maxRecDepth 100000 in
/-- no states -/
theorem c_G_dropAll (l : Launch) (D : va_G) (q : wz_Q) (ag : Nat → Nat) (mr n b : Nat) (rl : Nat → Nat) (st sl : Nat → Int32) (G : List Nat) (sf : Nat → Nat) (hn : n ≤ 8) (hb0 : 0 < b) (hb30 : b ≤ 30) (hM : pz_fact n < 2 ^ b) (hst : ∀ i x, G[i]? = some x → st i = nI x) (hsl : ∀ j, j < 2 ^ b → sl j = nI (sf j)) (ht : pz_ht (2 ^ b) (gq_hh b) G sf) (hG : G.length ≤ pz_fact n) (hx24 : ∀ x, x ∈ G → x < 2 ^ 24) (hnd : G.Nodup) : wz_Mv l y_G_dropAll ws_G_dropAll ({ frames := 1, cells := 0, slots := 0, locals := 24 } : Room) D q ([.ref (ag 0)] : List Value) [gq_W q ag mr (pz_fact n) (2 ^ b) (32 - b) rl st sl G.length] (po_G_dropAll q ag mr n b rl st sl G sf) 0 0 := by
  intro sz9
  refine wz_enter (cc := b_G_dropAll) (maxL := 2) (ret := none) (Qc := fun A => (va_Qv (po_G_dropAll q ag mr n b rl st sl G sf) (wz_At D q A) A)) (by decide) (Nat.le_of_ble_eq_true rfl) ?_
  intro p e s m below meth c A ls C hP hD hS hl
  obtain ⟨hx, hb, hr, hml, hlocks, hown, hts, hN, hK, hA, hnm⟩ := C
  have hown : s.vm.findClass "TwoEndSearch$Graph" = some m.cls := hown
  have hl : lv_has ls 2 [(0, .ref (ag 0))] := hl
  have hp31 := gq_p31 hb30
  have hfl := pz_fact_le hn
  have hp0 : 0 < 2 ^ b := Nat.pow_pos (by decide)
  refine lv_aload_n hx hb d_G_dropAll_0 rfl (lv_at hl 0 rfl) ?_
  refine wz_get (v := .int (nI G.length)) (T := T_G) (N := 6) hx hb hts i_G hown hK hP 0 0 rfl rfl rfl 5 (by decide) (hts _ kw_102) rfl rfl d_G_dropAll_1 ?_
  refine lv_iconst (v := nI 1) hx hb d_G_dropAll_4 (by decide) ?_
  refine lv_isub hx hb d_G_dropAll_5 ?_
  refine lv_istore_n (lv' := [(1, .int ((nI G.length) - (nI 1))), (0, .ref (ag 0))]) hx hb d_G_dropAll_6 rfl hl (by decide) rfl (fun ls hl => ?_)
  have loop : ∀ (d : Nat) (i : Nat) (sl1 : Nat → Int32) (s1 : Nat → Nat), i ≤ G.length → i < d → (∀ j, j < 2 ^ b → sl1 j = nI (s1 j)) → pz_ht (2 ^ b) (gq_hh b) (G.take i) s1 → ∀ (H : Heap) (locs : List Loc) (ls : Array Slot), va_P D vwCl ([gq_W q ag mr (pz_fact n) (2 ^ b) (32 - b) rl st sl1 G.length] : wz_G).flatten H → va_D A ([gq_W q ag mr (pz_fact n) (2 ^ b) (32 - b) rl st sl1 G.length] : wz_G).flatten → va_S A s.heap H locs → lv_has ls 2 [(0, .ref (ag 0)), (1, .int (nI i - nI 1))] → W p l e ({ frames := 1, cells := 0, slots := 0, locals := 24 } : Room) s m ([.ref (ag 0)] : List Value).toArray below meth c H locs 0 0 (MQ below (va_Qv (po_G_dropAll q ag mr n b rl st sl G sf) (wz_At D q A) A) ([.ref (ag 0)] : List Value).toArray s 0 0 A) (F0 m 7 ls []) := by
    intro d
    induction d with
    | zero =>
      intro i sl1 s1 hi hd h1 h2
      omega
    | succ d ih =>
      intro i sl1 s1 hi hd h1 h2 H locs ls hP hD hS hl
      refine lv_iload_n hx hb d_G_dropAll_7 rfl (lv_at hl 1 rfl) ?_
      refine lv_if_lt (tgt := 33) hx hb d_G_dropAll_8 (by decide) (fun hc => ?_) (fun hc => ?_)
      · skip
        have hi0 : i = 0 := by
          by_cases e0 : i = 0
          · exact e0
          · rw [pk_sub (by omega)] at hc
            exact absurd hc (nI_pos (by omega))
        subst hi0
        refine lv_aload_n hx hb d_G_dropAll_33 rfl (lv_at hl 0 rfl) ?_
        refine lv_iconst (v := nI 0) hx hb d_G_dropAll_34 (by decide) ?_
        refine wz_put (gs' := [gq_W q ag mr (pz_fact n) (2 ^ b) (32 - b) rl st sl1 0]) (v := .int (nI 0)) (T := T_G) (N := 6) hx hb hts i_G t_G t_G_ok n_G hown hK hP hD hS 0 0 rfl rfl rfl 5 (by decide) (hts _ kw_102) rfl rfl (ty := t_G 5) (by decide +kernel) rfl rfl (Nat.le_of_ble_eq_true rfl) d_G_dropAll_35 rfl (fun H locs hP hD hS => ?_)
        exact wz_vret hx hb hr hlocks hK hP hD hS d_G_dropAll_38 ⟨sl1, s1, rfl, h1, by rw [List.take_zero] at h2; exact h2⟩
      · skip
        have hi0 : i ≠ 0 := fun e0 => hc (by rw [e0]; decide)
        obtain ⟨i2, rfl⟩ : ∃ i2, i = i2 + 1 := ⟨i - 1, by omega⟩
        have hil : i2 < G.length := by omega
        obtain ⟨x, hgx⟩ : ∃ x, G[i2]? = some x := ⟨_, List.getElem?_eq_getElem hil⟩
        have htk : G.take (i2 + 1) = G.take i2 ++ [x] := by rw [List.take_succ, hgx]; rfl
        have hnd2 : (G.take (i2 + 1)).Nodup := (List.take_sublist _ _).nodup hnd
        have hgt : (G.take (i2 + 1))[i2]? = some x := by rw [List.getElem?_take_of_lt (by omega)]; exact hgx
        have hlen : (G.take i2).length = i2 := by rw [List.length_take]; omega
        refine lv_aload_n hx hb d_G_dropAll_11 rfl (lv_at hl 0 rfl) ?_
        refine wz_get (v := .ref (ag 2)) (T := T_G) (N := 6) hx hb hts i_G hown hK hP 0 0 rfl rfl rfl 2 (by decide) (hts _ kw_99) rfl rfl d_G_dropAll_12 ?_
        refine lv_aload_n hx hb d_G_dropAll_15 rfl (lv_at hl 0 rfl) ?_
        refine lv_aload_n hx hb d_G_dropAll_16 rfl (lv_at hl 0 rfl) ?_
        refine wz_get (v := .ref (ag 1)) (T := T_G) (N := 6) hx hb hts i_G hown hK hP 0 0 rfl rfl rfl 1 (by decide) (hts _ kw_98) rfl rfl d_G_dropAll_17 ?_
        refine lv_iload_n hx hb d_G_dropAll_20 rfl (lv_at hl 1 rfl) ?_
        refine wz_topi (y := nI i2) (pk_sub (by omega)) ?_
        refine wz_iald hx hb hK hP 0 1 (j := i2) rfl rfl (by omega) (by omega) d_G_dropAll_21 ?_
        refine wz_topi (y := nI x) (hst i2 x hgx) ?_
        have hQ := wz_split (n := 1) (gc := [gq_W q ag mr (pz_fact n) (2 ^ b) (32 - b) rl st sl1 G.length]) (gr := []) [0] [] rfl (by decide) rfl rfl hP hD
        refine wz_calli (va_runV (As := [.int (nI x)]) (rest := [.ref (ag 2)]) ⟨hx, hb, hml, hown, hts⟩ (c_G_slotOf l D q ag mr n b G.length rl st sl1 (G.take (i2 + 1)) s1 x hn hb0 hb30 hM (fun i z hz => hst i z (by have hz1 := (List.getElem?_eq_some_iff.mp hz).1; rw [List.length_take] at hz1; rw [List.getElem?_take_of_lt (by omega)] at hz; exact hz)) h1 h2 (by rw [List.length_take]; omega) (hx24 x (List.mem_of_getElem? hgx)) (fun z hz => hx24 z (List.mem_of_mem_take hz)) _) (cwV 1 hts (wz_goodV kw_310 kw_312 kw_6 kw_34 kw_313) rfl rfl rfl (by decide +kernel) ⟨Nat.le_of_ble_eq_true rfl, Nat.le_of_ble_eq_true rfl⟩) (wz_preV (gi := 0) (k := 0) hN hK hQ wz_L_ok rfl rfl rfl) rfl rfl hl.1 rfl (lv_room (Nat.le_of_ble_eq_true rfl)) d_G_dropAll_22 ⟨Nat.le_of_ble_eq_true rfl, Nat.le_of_ble_eq_true rfl⟩) hQ hS hA (fun v_22 gx H locs hp hP hD hS => ?_)
        obtain ⟨rfl, j, hj, rfl, hstop, hleast⟩ := hp
        obtain ⟨hP, hD⟩ := wz_ord (n := 1) (gs' := [gq_W q ag mr (pz_fact n) (2 ^ b) (32 - b) rl st sl1 G.length]) [0] rfl (by decide) rfl hP hD
        have hk9 : ((gq_hh b x + j) % 2 ^ b) < 2 ^ b := Nat.mod_lt _ hp0
        have hin := pz_ht_in h2 hnd2 hp0 hgt hstop hleast
        refine lv_iconst (v := nI 0) hx hb d_G_dropAll_25 (by decide) ?_
        refine wz_iast (gs' := [gq_W q ag mr (pz_fact n) (2 ^ b) (32 - b) rl st (upd sl1 ((gq_hh b x + j) % 2 ^ b) (nI 0)) G.length]) hx hb hK hP hD hS 0 2 (j := ((gq_hh b x + j) % 2 ^ b)) rfl rfl (by omega) (by omega) d_G_dropAll_26 rfl (fun H locs hP hD hS => ?_)
        refine lv_iinc (v := (nI i2 - nI 1)) (lv' := [(1, .int (nI i2 - nI 1)), (0, .ref (ag 0))]) hx hb d_G_dropAll_27 hl (k := 1) rfl (gq_dec i2) (by decide) rfl (fun ls hl => ?_)
        refine lv_goto (tgt := 7) hx hb d_G_dropAll_30 (by decide) ?_
        exact ih i2 (upd sl1 ((gq_hh b x + j) % 2 ^ b) (nI 0)) (pz_up s1 ((gq_hh b x + j) % 2 ^ b) 0) (by omega) (by omega) (fun j9 hj9 => by
          by_cases e0 : j9 = ((gq_hh b x + j) % 2 ^ b)
          · subst e0; rw [pk_us, pz_up_s]
          · rw [pk_un e0, pz_up_n _ _ e0]; exact h1 j9 hj9) (by rw [htk] at h2; exact pz_ht_drop h2 hk9 (by rw [hlen]; exact hin) hp0) _ _ _ hP hD hS (lv_sub hl [1, 0] rfl)
  exact loop (G.length + 1) G.length sl sf (by omega) (by omega) hsl (by rw [List.take_length]; exact ht) _ _ _ hP hD hS (lv_sub hl [1, 0] rfl)
