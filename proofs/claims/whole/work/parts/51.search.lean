theorem d_S_waysThroughMeeting_0 : decode b_S_waysThroughMeeting 0 = .ok (.aload_n 0, 1) := by decide +kernel
theorem d_S_waysThroughMeeting_1 : decode b_S_waysThroughMeeting 1 = .ok (.getfield 9, 3) := by decide +kernel
theorem d_S_waysThroughMeeting_4 : decode b_S_waysThroughMeeting 4 = .ok (.aload_n 0, 1) := by decide +kernel
theorem d_S_waysThroughMeeting_5 : decode b_S_waysThroughMeeting 5 = .ok (.getfield 47, 3) := by decide +kernel
theorem d_S_waysThroughMeeting_8 : decode b_S_waysThroughMeeting 8 = .ok (.getfield 114, 3) := by decide +kernel
theorem d_S_waysThroughMeeting_11 : decode b_S_waysThroughMeeting 11 = .ok (.isub, 1) := by decide +kernel
theorem d_S_waysThroughMeeting_12 : decode b_S_waysThroughMeeting 12 = .ok (.istore_n 2, 1) := by decide +kernel
theorem d_S_waysThroughMeeting_13 : decode b_S_waysThroughMeeting 13 = .ok (.lconst 0, 1) := by decide +kernel
theorem d_S_waysThroughMeeting_14 : decode b_S_waysThroughMeeting 14 = .ok (.lstore_n 3, 1) := by decide +kernel
theorem d_S_waysThroughMeeting_15 : decode b_S_waysThroughMeeting 15 = .ok (.aload_n 0, 1) := by decide +kernel
theorem d_S_waysThroughMeeting_16 : decode b_S_waysThroughMeeting 16 = .ok (.getfield 47, 3) := by decide +kernel
theorem d_S_waysThroughMeeting_19 : decode b_S_waysThroughMeeting 19 = .ok (.getfield 128, 3) := by decide +kernel
theorem d_S_waysThroughMeeting_22 : decode b_S_waysThroughMeeting 22 = .ok (.istore 5, 2) := by decide +kernel
theorem d_S_waysThroughMeeting_24 : decode b_S_waysThroughMeeting 24 = .ok (.iload 5, 2) := by decide +kernel
theorem d_S_waysThroughMeeting_26 : decode b_S_waysThroughMeeting 26 = .ok (.aload_n 0, 1) := by decide +kernel
theorem d_S_waysThroughMeeting_27 : decode b_S_waysThroughMeeting 27 = .ok (.getfield 47, 3) := by decide +kernel
theorem d_S_waysThroughMeeting_30 : decode b_S_waysThroughMeeting 30 = .ok (.getfield 131, 3) := by decide +kernel
theorem d_S_waysThroughMeeting_33 : decode b_S_waysThroughMeeting 33 = .ok (.if_icmp .ge 53, 3) := by decide +kernel
theorem d_S_waysThroughMeeting_36 : decode b_S_waysThroughMeeting 36 = .ok (.aload_n 0, 1) := by decide +kernel
theorem d_S_waysThroughMeeting_37 : decode b_S_waysThroughMeeting 37 = .ok (.getfield 47, 3) := by decide +kernel
theorem d_S_waysThroughMeeting_40 : decode b_S_waysThroughMeeting 40 = .ok (.getfield 111, 3) := by decide +kernel
theorem d_S_waysThroughMeeting_43 : decode b_S_waysThroughMeeting 43 = .ok (.iload 5, 2) := by decide +kernel
theorem d_S_waysThroughMeeting_45 : decode b_S_waysThroughMeeting 45 = .ok (.iaload, 1) := by decide +kernel
theorem d_S_waysThroughMeeting_46 : decode b_S_waysThroughMeeting 46 = .ok (.istore 6, 2) := by decide +kernel
theorem d_S_waysThroughMeeting_48 : decode b_S_waysThroughMeeting 48 = .ok (.aload_n 1, 1) := by decide +kernel
theorem d_S_waysThroughMeeting_49 : decode b_S_waysThroughMeeting 49 = .ok (.getfield 108, 3) := by decide +kernel
theorem d_S_waysThroughMeeting_52 : decode b_S_waysThroughMeeting 52 = .ok (.iload 6, 2) := by decide +kernel
theorem d_S_waysThroughMeeting_54 : decode b_S_waysThroughMeeting 54 = .ok (.iaload, 1) := by decide +kernel
theorem d_S_waysThroughMeeting_55 : decode b_S_waysThroughMeeting 55 = .ok (.iload_n 2, 1) := by decide +kernel
theorem d_S_waysThroughMeeting_56 : decode b_S_waysThroughMeeting 56 = .ok (.if_icmp .ne 24, 3) := by decide +kernel
theorem d_S_waysThroughMeeting_59 : decode b_S_waysThroughMeeting 59 = .ok (.lload_n 3, 1) := by decide +kernel
theorem d_S_waysThroughMeeting_60 : decode b_S_waysThroughMeeting 60 = .ok (.aload_n 1, 1) := by decide +kernel
theorem d_S_waysThroughMeeting_61 : decode b_S_waysThroughMeeting 61 = .ok (.getfield 134, 3) := by decide +kernel
theorem d_S_waysThroughMeeting_64 : decode b_S_waysThroughMeeting 64 = .ok (.iload 6, 2) := by decide +kernel
theorem d_S_waysThroughMeeting_66 : decode b_S_waysThroughMeeting 66 = .ok (.laload, 1) := by decide +kernel
theorem d_S_waysThroughMeeting_67 : decode b_S_waysThroughMeeting 67 = .ok (.aload_n 0, 1) := by decide +kernel
theorem d_S_waysThroughMeeting_68 : decode b_S_waysThroughMeeting 68 = .ok (.getfield 47, 3) := by decide +kernel
theorem d_S_waysThroughMeeting_71 : decode b_S_waysThroughMeeting 71 = .ok (.getfield 134, 3) := by decide +kernel
theorem d_S_waysThroughMeeting_74 : decode b_S_waysThroughMeeting 74 = .ok (.iload 6, 2) := by decide +kernel
theorem d_S_waysThroughMeeting_76 : decode b_S_waysThroughMeeting 76 = .ok (.laload, 1) := by decide +kernel
theorem d_S_waysThroughMeeting_77 : decode b_S_waysThroughMeeting 77 = .ok (.lmul, 1) := by decide +kernel
theorem d_S_waysThroughMeeting_78 : decode b_S_waysThroughMeeting 78 = .ok (.ladd, 1) := by decide +kernel
theorem d_S_waysThroughMeeting_79 : decode b_S_waysThroughMeeting 79 = .ok (.lstore_n 3, 1) := by decide +kernel
theorem d_S_waysThroughMeeting_80 : decode b_S_waysThroughMeeting 80 = .ok (.iinc 5 1, 3) := by decide +kernel
theorem d_S_waysThroughMeeting_83 : decode b_S_waysThroughMeeting 83 = .ok (.goto (-59), 3) := by decide +kernel
theorem d_S_waysThroughMeeting_86 : decode b_S_waysThroughMeeting 86 = .ok (.lload_n 3, 1) := by decide +kernel
theorem d_S_waysThroughMeeting_87 : decode b_S_waysThroughMeeting 87 = .ok (.lreturn, 1) := by decide +kernel
theorem d_S_leadBackFrom_0 : decode b_S_leadBackFrom 0 = .ok (.aload_n 0, 1) := by decide +kernel
theorem d_S_leadBackFrom_1 : decode b_S_leadBackFrom 1 = .ok (.getfield 18, 3) := by decide +kernel
theorem d_S_leadBackFrom_4 : decode b_S_leadBackFrom 4 = .ok (.aload_n 0, 1) := by decide +kernel
theorem d_S_leadBackFrom_5 : decode b_S_leadBackFrom 5 = .ok (.getfield 47, 3) := by decide +kernel
theorem d_S_leadBackFrom_8 : decode b_S_leadBackFrom 8 = .ok (.getfield 146, 3) := by decide +kernel
theorem d_S_leadBackFrom_11 : decode b_S_leadBackFrom 11 = .ok (.iload_n 2, 1) := by decide +kernel
theorem d_S_leadBackFrom_12 : decode b_S_leadBackFrom 12 = .ok (.invokevirtual 149, 3) := by decide +kernel
theorem d_S_leadBackFrom_15 : decode b_S_leadBackFrom 15 = .ok (.istore 4, 2) := by decide +kernel
theorem d_S_leadBackFrom_17 : decode b_S_leadBackFrom 17 = .ok (.aload_n 3, 1) := by decide +kernel
theorem d_S_leadBackFrom_18 : decode b_S_leadBackFrom 18 = .ok (.getfield 108, 3) := by decide +kernel
theorem d_S_leadBackFrom_21 : decode b_S_leadBackFrom 21 = .ok (.iload_n 1, 1) := by decide +kernel
theorem d_S_leadBackFrom_22 : decode b_S_leadBackFrom 22 = .ok (.iaload, 1) := by decide +kernel
theorem d_S_leadBackFrom_23 : decode b_S_leadBackFrom 23 = .ok (.iconst 1, 1) := by decide +kernel
theorem d_S_leadBackFrom_24 : decode b_S_leadBackFrom 24 = .ok (.isub, 1) := by decide +kernel
theorem d_S_leadBackFrom_25 : decode b_S_leadBackFrom 25 = .ok (.istore 5, 2) := by decide +kernel
theorem d_S_leadBackFrom_27 : decode b_S_leadBackFrom 27 = .ok (.iload_n 1, 1) := by decide +kernel
theorem d_S_leadBackFrom_28 : decode b_S_leadBackFrom 28 = .ok (.istore 6, 2) := by decide +kernel
theorem d_S_leadBackFrom_30 : decode b_S_leadBackFrom 30 = .ok (.iconst 1, 1) := by decide +kernel
theorem d_S_leadBackFrom_31 : decode b_S_leadBackFrom 31 = .ok (.istore 7, 2) := by decide +kernel
theorem d_S_leadBackFrom_33 : decode b_S_leadBackFrom 33 = .ok (.iload 7, 2) := by decide +kernel
theorem d_S_leadBackFrom_35 : decode b_S_leadBackFrom 35 = .ok (.iload 4, 2) := by decide +kernel
theorem d_S_leadBackFrom_37 : decode b_S_leadBackFrom 37 = .ok (.if_icmp .gt 70, 3) := by decide +kernel
theorem d_S_leadBackFrom_40 : decode b_S_leadBackFrom 40 = .ok (.aload_n 0, 1) := by decide +kernel
theorem d_S_leadBackFrom_41 : decode b_S_leadBackFrom 41 = .ok (.getfield 31, 3) := by decide +kernel
theorem d_S_leadBackFrom_44 : decode b_S_leadBackFrom 44 = .ok (.iload_n 2, 1) := by decide +kernel
theorem d_S_leadBackFrom_45 : decode b_S_leadBackFrom 45 = .ok (.bipush 6, 2) := by decide +kernel
theorem d_S_leadBackFrom_47 : decode b_S_leadBackFrom 47 = .ok (.iadd, 1) := by decide +kernel
theorem d_S_leadBackFrom_48 : decode b_S_leadBackFrom 48 = .ok (.iload 6, 2) := by decide +kernel
theorem d_S_leadBackFrom_50 : decode b_S_leadBackFrom 50 = .ok (.invokevirtual 152, 3) := by decide +kernel
theorem d_S_leadBackFrom_53 : decode b_S_leadBackFrom 53 = .ok (.istore 6, 2) := by decide +kernel
theorem d_S_leadBackFrom_55 : decode b_S_leadBackFrom 55 = .ok (.aload_n 3, 1) := by decide +kernel
theorem d_S_leadBackFrom_56 : decode b_S_leadBackFrom 56 = .ok (.getfield 108, 3) := by decide +kernel
theorem d_S_leadBackFrom_59 : decode b_S_leadBackFrom 59 = .ok (.iload 6, 2) := by decide +kernel
theorem d_S_leadBackFrom_61 : decode b_S_leadBackFrom 61 = .ok (.iaload, 1) := by decide +kernel
theorem d_S_leadBackFrom_62 : decode b_S_leadBackFrom 62 = .ok (.iload 5, 2) := by decide +kernel
theorem d_S_leadBackFrom_64 : decode b_S_leadBackFrom 64 = .ok (.if_icmp .ne 37, 3) := by decide +kernel
theorem d_S_leadBackFrom_67 : decode b_S_leadBackFrom 67 = .ok (.aload_n 0, 1) := by decide +kernel
theorem d_S_leadBackFrom_68 : decode b_S_leadBackFrom 68 = .ok (.getfield 47, 3) := by decide +kernel
theorem d_S_leadBackFrom_71 : decode b_S_leadBackFrom 71 = .ok (.getfield 108, 3) := by decide +kernel
theorem d_S_leadBackFrom_74 : decode b_S_leadBackFrom 74 = .ok (.iload 6, 2) := by decide +kernel
theorem d_S_leadBackFrom_76 : decode b_S_leadBackFrom 76 = .ok (.iaload, 1) := by decide +kernel
theorem d_S_leadBackFrom_77 : decode b_S_leadBackFrom 77 = .ok (.iconst (-1), 1) := by decide +kernel
theorem d_S_leadBackFrom_78 : decode b_S_leadBackFrom 78 = .ok (.if_icmp .ne 23, 3) := by decide +kernel
theorem d_S_leadBackFrom_81 : decode b_S_leadBackFrom 81 = .ok (.aload_n 0, 1) := by decide +kernel
theorem d_S_leadBackFrom_82 : decode b_S_leadBackFrom 82 = .ok (.getfield 47, 3) := by decide +kernel
theorem d_S_leadBackFrom_85 : decode b_S_leadBackFrom 85 = .ok (.iload 6, 2) := by decide +kernel
theorem d_S_leadBackFrom_87 : decode b_S_leadBackFrom 87 = .ok (.aload_n 0, 1) := by decide +kernel
theorem d_S_leadBackFrom_88 : decode b_S_leadBackFrom 88 = .ok (.getfield 47, 3) := by decide +kernel
theorem d_S_leadBackFrom_91 : decode b_S_leadBackFrom 91 = .ok (.getfield 108, 3) := by decide +kernel
theorem d_S_leadBackFrom_94 : decode b_S_leadBackFrom 94 = .ok (.iload_n 1, 1) := by decide +kernel
theorem d_S_leadBackFrom_95 : decode b_S_leadBackFrom 95 = .ok (.iaload, 1) := by decide +kernel
theorem d_S_leadBackFrom_96 : decode b_S_leadBackFrom 96 = .ok (.iconst 1, 1) := by decide +kernel
theorem d_S_leadBackFrom_97 : decode b_S_leadBackFrom 97 = .ok (.iadd, 1) := by decide +kernel
theorem d_S_leadBackFrom_98 : decode b_S_leadBackFrom 98 = .ok (.invokevirtual 155, 3) := by decide +kernel
theorem d_S_leadBackFrom_101 : decode b_S_leadBackFrom 101 = .ok (.iinc 7 1, 3) := by decide +kernel
theorem d_S_leadBackFrom_104 : decode b_S_leadBackFrom 104 = .ok (.goto (-71), 3) := by decide +kernel
theorem d_S_leadBackFrom_107 : decode b_S_leadBackFrom 107 = .ok (.return_, 1) := by decide +kernel
theorem d_S_leadBackToStart_0 : decode b_S_leadBackToStart 0 = .ok (.aload_n 0, 1) := by decide +kernel
theorem d_S_leadBackToStart_1 : decode b_S_leadBackToStart 1 = .ok (.getfield 47, 3) := by decide +kernel
theorem d_S_leadBackToStart_4 : decode b_S_leadBackToStart 4 = .ok (.getfield 128, 3) := by decide +kernel
theorem d_S_leadBackToStart_7 : decode b_S_leadBackToStart 7 = .ok (.istore_n 2, 1) := by decide +kernel
theorem d_S_leadBackToStart_8 : decode b_S_leadBackToStart 8 = .ok (.iload_n 2, 1) := by decide +kernel
theorem d_S_leadBackToStart_9 : decode b_S_leadBackToStart 9 = .ok (.aload_n 0, 1) := by decide +kernel
theorem d_S_leadBackToStart_10 : decode b_S_leadBackToStart 10 = .ok (.getfield 47, 3) := by decide +kernel
theorem d_S_leadBackToStart_13 : decode b_S_leadBackToStart 13 = .ok (.getfield 131, 3) := by decide +kernel
theorem d_S_leadBackToStart_16 : decode b_S_leadBackToStart 16 = .ok (.if_icmp .ge 89, 3) := by decide +kernel
theorem d_S_leadBackToStart_19 : decode b_S_leadBackToStart 19 = .ok (.iload_n 2, 1) := by decide +kernel
theorem d_S_leadBackToStart_20 : decode b_S_leadBackToStart 20 = .ok (.aload_n 0, 1) := by decide +kernel
theorem d_S_leadBackToStart_21 : decode b_S_leadBackToStart 21 = .ok (.getfield 50, 3) := by decide +kernel
theorem d_S_leadBackToStart_24 : decode b_S_leadBackToStart 24 = .ok (.arraylength, 1) := by decide +kernel
theorem d_S_leadBackToStart_25 : decode b_S_leadBackToStart 25 = .ok (.if_icmp .ge 80, 3) := by decide +kernel
theorem d_S_leadBackToStart_28 : decode b_S_leadBackToStart 28 = .ok (.aload_n 0, 1) := by decide +kernel
theorem d_S_leadBackToStart_29 : decode b_S_leadBackToStart 29 = .ok (.getfield 47, 3) := by decide +kernel
theorem d_S_leadBackToStart_32 : decode b_S_leadBackToStart 32 = .ok (.getfield 111, 3) := by decide +kernel
theorem d_S_leadBackToStart_35 : decode b_S_leadBackToStart 35 = .ok (.iload_n 2, 1) := by decide +kernel
theorem d_S_leadBackToStart_36 : decode b_S_leadBackToStart 36 = .ok (.iaload, 1) := by decide +kernel
theorem d_S_leadBackToStart_37 : decode b_S_leadBackToStart 37 = .ok (.istore_n 3, 1) := by decide +kernel
theorem d_S_leadBackToStart_38 : decode b_S_leadBackToStart 38 = .ok (.aload_n 0, 1) := by decide +kernel
theorem d_S_leadBackToStart_39 : decode b_S_leadBackToStart 39 = .ok (.getfield 9, 3) := by decide +kernel
theorem d_S_leadBackToStart_42 : decode b_S_leadBackToStart 42 = .ok (.aload_n 0, 1) := by decide +kernel
theorem d_S_leadBackToStart_43 : decode b_S_leadBackToStart 43 = .ok (.getfield 47, 3) := by decide +kernel
theorem d_S_leadBackToStart_46 : decode b_S_leadBackToStart 46 = .ok (.getfield 108, 3) := by decide +kernel
theorem d_S_leadBackToStart_49 : decode b_S_leadBackToStart 49 = .ok (.iload_n 3, 1) := by decide +kernel
theorem d_S_leadBackToStart_50 : decode b_S_leadBackToStart 50 = .ok (.iaload, 1) := by decide +kernel
theorem d_S_leadBackToStart_51 : decode b_S_leadBackToStart 51 = .ok (.isub, 1) := by decide +kernel
theorem d_S_leadBackToStart_52 : decode b_S_leadBackToStart 52 = .ok (.istore 4, 2) := by decide +kernel
theorem d_S_leadBackToStart_54 : decode b_S_leadBackToStart 54 = .ok (.iload 4, 2) := by decide +kernel
theorem d_S_leadBackToStart_56 : decode b_S_leadBackToStart 56 = .ok (.ifCond .le 43, 3) := by decide +kernel
theorem d_S_leadBackToStart_59 : decode b_S_leadBackToStart 59 = .ok (.aload_n 1, 1) := by decide +kernel
theorem d_S_leadBackToStart_60 : decode b_S_leadBackToStart 60 = .ok (.getfield 108, 3) := by decide +kernel
theorem d_S_leadBackToStart_63 : decode b_S_leadBackToStart 63 = .ok (.iload_n 3, 1) := by decide +kernel
theorem d_S_leadBackToStart_64 : decode b_S_leadBackToStart 64 = .ok (.iaload, 1) := by decide +kernel
theorem d_S_leadBackToStart_65 : decode b_S_leadBackToStart 65 = .ok (.iload 4, 2) := by decide +kernel
theorem d_S_leadBackToStart_67 : decode b_S_leadBackToStart 67 = .ok (.if_icmp .ne 32, 3) := by decide +kernel
theorem d_S_leadBackToStart_70 : decode b_S_leadBackToStart 70 = .ok (.iconst 0, 1) := by decide +kernel
theorem d_S_leadBackToStart_71 : decode b_S_leadBackToStart 71 = .ok (.istore 5, 2) := by decide +kernel
theorem d_S_leadBackToStart_73 : decode b_S_leadBackToStart 73 = .ok (.iload 5, 2) := by decide +kernel
theorem d_S_leadBackToStart_75 : decode b_S_leadBackToStart 75 = .ok (.aload_n 0, 1) := by decide +kernel
theorem d_S_leadBackToStart_76 : decode b_S_leadBackToStart 76 = .ok (.getfield 18, 3) := by decide +kernel
theorem d_S_leadBackToStart_79 : decode b_S_leadBackToStart 79 = .ok (.getfield 137, 3) := by decide +kernel
theorem d_S_leadBackToStart_82 : decode b_S_leadBackToStart 82 = .ok (.if_icmp .ge 17, 3) := by decide +kernel
theorem d_S_leadBackToStart_85 : decode b_S_leadBackToStart 85 = .ok (.aload_n 0, 1) := by decide +kernel
theorem d_S_leadBackToStart_86 : decode b_S_leadBackToStart 86 = .ok (.iload_n 3, 1) := by decide +kernel
theorem d_S_leadBackToStart_87 : decode b_S_leadBackToStart 87 = .ok (.iload 5, 2) := by decide +kernel
theorem d_S_leadBackToStart_89 : decode b_S_leadBackToStart 89 = .ok (.aload_n 1, 1) := by decide +kernel
theorem d_S_leadBackToStart_90 : decode b_S_leadBackToStart 90 = .ok (.invokevirtual 142, 3) := by decide +kernel
theorem d_S_leadBackToStart_93 : decode b_S_leadBackToStart 93 = .ok (.iinc 5 1, 3) := by decide +kernel
theorem d_S_leadBackToStart_96 : decode b_S_leadBackToStart 96 = .ok (.goto (-23), 3) := by decide +kernel
theorem d_S_leadBackToStart_99 : decode b_S_leadBackToStart 99 = .ok (.iinc 2 1, 3) := by decide +kernel
theorem d_S_leadBackToStart_102 : decode b_S_leadBackToStart 102 = .ok (.goto (-94), 3) := by decide +kernel
theorem d_S_leadBackToStart_105 : decode b_S_leadBackToStart 105 = .ok (.return_, 1) := by decide +kernel
theorem kw_11 : (Cond.selects "TwoEndSearch$Search" ⟨"TwoEndSearch$Search", "leadBackFrom", "(IILTwoEndSearch$Ball;)V"⟩ ⟨"TwoEndSearch$Search", "leadBackFrom", "(IILTwoEndSearch$Ball;)V"⟩ : Cond) ∈ bigW := bigW_of 11 (by decide +kernel) (by decide +kernel)
theorem kw_33 : (Cond.initialized "TwoEndSearch$Search" : Cond) ∈ bigW := bigW_of 33 (by decide +kernel) (by decide +kernel)
theorem kw_170 : (Cond.fieldLink "TwoEndSearch$Search" 18 "TwoEndSearch$Search" "moves" "LTwoEndSearch$Moves;" : Cond) ∈ bigW := bigW_of 170 (by decide +kernel) (by decide +kernel)
theorem kw_171 : (Cond.fieldLink "TwoEndSearch$Search" 31 "TwoEndSearch$Search" "graph" "LTwoEndSearch$Graph;" : Cond) ∈ bigW := bigW_of 171 (by decide +kernel) (by decide +kernel)
theorem kw_181 : (Cond.fieldLink "TwoEndSearch$Search" 9 "TwoEndSearch$Search" "length" "I" : Cond) ∈ bigW := bigW_of 181 (by decide +kernel) (by decide +kernel)
theorem kw_377 : (Cond.methodLink "TwoEndSearch$Search" 142 ⟨"TwoEndSearch$Search", "leadBackFrom", "(IILTwoEndSearch$Ball;)V"⟩ : Cond) ∈ bigW := bigW_of 377 (by decide +kernel) (by decide +kernel)
theorem kw_379 : (Cond.instanceMethod ⟨"TwoEndSearch$Search", "leadBackFrom", "(IILTwoEndSearch$Ball;)V"⟩ : Cond) ∈ bigW := bigW_of 379 (by decide +kernel) (by decide +kernel)
theorem kw_380 : (Cond.code ⟨"TwoEndSearch$Search", "leadBackFrom", "(IILTwoEndSearch$Ball;)V"⟩ prog_5_method_9_code 8 none : Cond) ∈ bigW := bigW_of 380 (by decide +kernel) (by decide +kernel)
theorem kw_381 : (Cond.methodLink "TwoEndSearch$Search" 149 ⟨"TwoEndSearch$Moves", "mostTimes", "(II)I"⟩ : Cond) ∈ bigW := bigW_of 381 (by decide +kernel) (by decide +kernel)
theorem kw_382 : (Cond.methodLink "TwoEndSearch$Search" 152 ⟨"TwoEndSearch$Graph", "follow", "(II)I"⟩ : Cond) ∈ bigW := bigW_of 382 (by decide +kernel) (by decide +kernel)
theorem kw_383 : (Cond.methodLink "TwoEndSearch$Search" 155 ⟨"TwoEndSearch$Ball", "take", "(II)V"⟩ : Cond) ∈ bigW := bigW_of 383 (by decide +kernel) (by decide +kernel)
def po_S_waysThroughMeeting (q : wz_Q) (as9 ah ak ag am : Nat → Nat) (n b k : Nat) (rl rt : Nat → Nat) (fo : Nat → Int32) (M : Nat → Nat → Int32) (sg tu : Nat → Nat → Nat) (od : Nat → Nat) (a0 r1 r2 : Nat) (rw : Nat → Int32) (bg : Int32) (sx ro : Nat) (ln : Int32) (wz : Int64) (G : List Nat) (st sl : Nat → Int32) (L : Nat → Nat → Int32) (S : pz_S) (fa : Nat → Int32) (wy : Nat → Int64) (re : Nat → Int32) (ly dp : Nat) (me cm : Int32) (T : pz_S) (fk : Nat → Int32) (wk : Nat → Int64) (rk : Nat → Int32) (lk dk : Nat) (ck : Int32) (sa gl : Nat) (len i9 : Nat) (cb cc : Bool) : Int64 → wz_G → Prop := fun v w => w = [se_W q as9 n (am 0) (ag 0) r1 r2 (ak 0) (pz_fact n) rw bg sx ro ln wz, bl_W q ah (am 0) (ag 0) 0 (pz_fact n) fa wy re S.1.length ly dp me cm, bl_W q ak (am 0) (ag 0) 6 (pz_fact n) fk wk rk T.1.length lk dk me ck, gq_W q ag (am 0) (pz_fact n) (2 ^ b) (32 - b) rl st sl G.length, wz_rows 12 rl (fun i9 => .inl (q.1, pz_fact n, .inl (L i9))), mv_W q am n k rt fo, wz_rows 12 rt (fun i9 => .inl (q.1, 8, .inl (M i9)))] ∧ v = lN (pz_cnt gl (pz_ends (bl_s n k 0 sg tu od me) sa len))
set_option maxHeartbeats 4000000 in
set_option maxRecDepth 100000 in
/-- how many shortest rows -/
theorem c_S_waysThroughMeeting (l : Launch) (D : va_G) (q : wz_Q) (as9 ah ak ag am : Nat → Nat) (n b k : Nat) (rl rt : Nat → Nat) (fo : Nat → Int32) (M : Nat → Nat → Int32) (sg tu : Nat → Nat → Nat) (od : Nat → Nat) (a0 r1 r2 : Nat) (rw : Nat → Int32) (bg : Int32) (sx ro : Nat) (ln : Int32) (wz : Int64) (G : List Nat) (st sl : Nat → Int32) (L : Nat → Nat → Int32) (S : pz_S) (fa : Nat → Int32) (wy : Nat → Int64) (re : Nat → Int32) (ly dp : Nat) (me cm : Int32) (T : pz_S) (fk : Nat → Int32) (wk : Nat → Int64) (rk : Nat → Int32) (lk dk : Nat) (ck : Int32) (sa gl : Nat) (len i9 : Nat) (cb cc : Bool) (hn : n ≤ 8) (hb0 : 0 < b) (hb30 : b ≤ 30) (hM : pz_fact n < 2 ^ b) (hk : k ≤ 6) (hmv : mv_ok n k fo M sg tu od) (hok : gq_ok n a0 b k sg tu G st sl L) (hblS : bl_ok (pz_fact n) G S fa wy re) (hblT : bl_ok (pz_fact n) G T fk wk rk) (hrv : ∀ u v, pz_cnt v (bl_s n k 0 sg tu od me u) = pz_cnt u (bl_s n k 6 sg tu od me v)) (hbS : pz_ball (bl_s n k 0 sg tu od me) sa ly dp cb S) (hbT : pz_ball (bl_s n k 6 sg tu od me) gl lk dk cc T) (hdS : dp ≤ ly) (hdT : dk ≤ lk) (hln : ln = nI len) (hl9 : len = i9 + dk) (hi9 : i9 ≤ dp) (hdist : pz_dist (bl_s n k 0 sg tu od me) sa gl len) : wz_Ml l y_S_waysThroughMeeting ws_S_waysThroughMeeting ({ frames := 0, cells := 0, slots := 0, locals := 0 } : Room) D q ([.ref (as9 0), .ref (ah 0)] : List Value) [se_W q as9 n (am 0) (ag 0) r1 r2 (ak 0) (pz_fact n) rw bg sx ro ln wz, bl_W q ah (am 0) (ag 0) 0 (pz_fact n) fa wy re S.1.length ly dp me cm, bl_W q ak (am 0) (ag 0) 6 (pz_fact n) fk wk rk T.1.length lk dk me ck, gq_W q ag (am 0) (pz_fact n) (2 ^ b) (32 - b) rl st sl G.length, wz_rows 12 rl (fun i9 => .inl (q.1, pz_fact n, .inl (L i9))), mv_W q am n k rt fo, wz_rows 12 rt (fun i9 => .inl (q.1, 8, .inl (M i9)))] (po_S_waysThroughMeeting q as9 ah ak ag am n b k rl rt fo M sg tu od a0 r1 r2 rw bg sx ro ln wz G st sl L S fa wy re ly dp me cm T fk wk rk lk dk ck sa gl len i9 cb cc) 0 0 := by
  intro sz9
  refine wz_enter (cc := b_S_waysThroughMeeting) (maxL := 7) (ret := (some .long)) (Qc := fun A => (va_Ql (po_S_waysThroughMeeting q as9 ah ak ag am n b k rl rt fo M sg tu od a0 r1 r2 rw bg sx ro ln wz G st sl L S fa wy re ly dp me cm T fk wk rk lk dk ck sa gl len i9 cb cc) (wz_At D q A) A)) (by decide) (Nat.le_of_ble_eq_true rfl) ?_
  intro p e s m below meth c A ls C hP hD hS hl
  obtain ⟨hx, hb, hr, hml, hlocks, hown, hts, hN, hK, hA, hnm⟩ := C
  have hown : s.vm.findClass "TwoEndSearch$Search" = some m.cls := hown
  have hl : lv_has ls 7 [(0, .ref (as9 0)), (1, .ref (ah 0))] := hl
  have hfl := pz_fact_le hn
  have hGl := gq_len hok
  have hSl := bl_len hblS
  have hTl := bl_len hblT
  have hlyS := hbS.2.1
  have hlyT := hbT.2.1
  subst hln
  have hltS : ∀ x e, S.2.1 x = some e → e < 2 ^ 30 := pz_ball_lt hbS (by omega)
  obtain ⟨F9, hF9⟩ : ∃ F9 : Nat → Nat, F9 = fun x => if S.2.1 x = some i9 then pz_cnt x (pz_ends (bl_s n k 0 sg tu od me) sa i9) * pz_cnt x (pz_ends (bl_s n k 6 sg tu od me) gl dk) else 0 := ⟨_, rfl⟩
  refine lv_aload_n hx hb d_S_waysThroughMeeting_0 rfl (lv_at hl 0 rfl) ?_
  refine wz_get (v := .int (nI len)) (T := T_S) (N := 12) hx hb hts i_S hown hK hP 0 0 rfl rfl rfl 10 (by decide) (hts _ kw_181) rfl rfl d_S_waysThroughMeeting_1 ?_
  refine lv_aload_n hx hb d_S_waysThroughMeeting_4 rfl (lv_at hl 0 rfl) ?_
  refine wz_get (v := .ref (ak 0)) (T := T_S) (N := 12) hx hb hts i_S hown hK hP 0 0 rfl rfl rfl 5 (by decide) (hts _ kw_174) rfl rfl d_S_waysThroughMeeting_5 ?_
  refine wz_getN (v := .int (nI dk)) (T := T_B) (N := 11) hx hb hts i_B hown hK hP 2 0 rfl rfl rfl 8 (by decide) (hN.1 _ (List.mem_of_getElem? (i := 10) rfl)) rfl rfl d_S_waysThroughMeeting_8 ?_
  refine lv_isub hx hb d_S_waysThroughMeeting_11 ?_
  refine wz_topi (y := nI i9) ((pk_sub (by omega)).trans (congrArg nI (by omega))) ?_
  refine lv_istore_n (lv' := [(2, .int (nI i9)), (0, .ref (as9 0)), (1, .ref (ah 0))]) hx hb d_S_waysThroughMeeting_12 rfl hl (by decide) rfl (fun ls hl => ?_)
  refine lv_lconst (v := 0) hx hb d_S_waysThroughMeeting_13 rfl ?_
  refine lv_lstore_n (lv' := [(3, .long 0), (2, .int (nI i9)), (0, .ref (as9 0)), (1, .ref (ah 0))]) hx hb d_S_waysThroughMeeting_14 rfl hl (by decide) rfl (fun ls hl => ?_)
  refine lv_aload_n hx hb d_S_waysThroughMeeting_15 rfl (lv_at hl 2 rfl) ?_
  refine wz_get (v := .ref (ak 0)) (T := T_S) (N := 12) hx hb hts i_S hown hK hP 0 0 rfl rfl rfl 5 (by decide) (hts _ kw_174) rfl rfl d_S_waysThroughMeeting_16 ?_
  refine wz_getN (v := .int (nI lk)) (T := T_B) (N := 11) hx hb hts i_B hown hK hP 2 0 rfl rfl rfl 7 (by decide) (hN.1 _ (List.mem_of_getElem? (i := 9) rfl)) rfl rfl d_S_waysThroughMeeting_19 ?_
  refine lv_istore (lv' := [(5, .int (nI lk)), (3, .long 0), (2, .int (nI i9)), (0, .ref (as9 0)), (1, .ref (ah 0))]) hx hb d_S_waysThroughMeeting_22 hl (by decide) rfl (fun ls hl => ?_)
  have loop : ∀ (d : Nat) (u : Nat), lk + u ≤ T.1.length → T.1.length + 1 ≤ lk + u + d → ∀ (H : Heap) (locs : List Loc) (ls : Array Slot), va_P D vwCl ([se_W q as9 n (am 0) (ag 0) r1 r2 (ak 0) (pz_fact n) rw bg sx ro (nI len) wz, bl_W q ah (am 0) (ag 0) 0 (pz_fact n) fa wy re S.1.length ly dp me cm, bl_W q ak (am 0) (ag 0) 6 (pz_fact n) fk wk rk T.1.length lk dk me ck, gq_W q ag (am 0) (pz_fact n) (2 ^ b) (32 - b) rl st sl G.length, wz_rows 12 rl (fun i9 => .inl (q.1, pz_fact n, .inl (L i9))), mv_W q am n k rt fo, wz_rows 12 rt (fun i9 => .inl (q.1, 8, .inl (M i9)))] : wz_G).flatten H → va_D A ([se_W q as9 n (am 0) (ag 0) r1 r2 (ak 0) (pz_fact n) rw bg sx ro (nI len) wz, bl_W q ah (am 0) (ag 0) 0 (pz_fact n) fa wy re S.1.length ly dp me cm, bl_W q ak (am 0) (ag 0) 6 (pz_fact n) fk wk rk T.1.length lk dk me ck, gq_W q ag (am 0) (pz_fact n) (2 ^ b) (32 - b) rl st sl G.length, wz_rows 12 rl (fun i9 => .inl (q.1, pz_fact n, .inl (L i9))), mv_W q am n k rt fo, wz_rows 12 rt (fun i9 => .inl (q.1, 8, .inl (M i9)))] : wz_G).flatten → va_S A s.heap H locs → lv_has ls 7 [(0, .ref (as9 0)), (1, .ref (ah 0)), (2, .int (nI i9)), (3, .long (lN (pz_sum F9 ((T.1.drop lk).take u)))), (5, .int (nI (lk + u)))] → W p l e ({ frames := 0, cells := 0, slots := 0, locals := 0 } : Room) s m ([.ref (as9 0), .ref (ah 0)] : List Value).toArray below meth c H locs 0 0 (MQ below (va_Ql (po_S_waysThroughMeeting q as9 ah ak ag am n b k rl rt fo M sg tu od a0 r1 r2 rw bg sx ro (nI len) wz G st sl L S fa wy re ly dp me cm T fk wk rk lk dk ck sa gl len i9 cb cc) (wz_At D q A) A) ([.ref (as9 0), .ref (ah 0)] : List Value).toArray s 0 0 A) (F0 m 24 ls []) := by
    intro d
    induction d with
    | zero =>
      intro u hu hd
      omega
    | succ d ih =>
      intro u hu hd H locs ls hP hD hS hl
      refine lv_iload hx hb d_S_waysThroughMeeting_24 (lv_at hl 4 rfl) ?_
      refine lv_aload_n hx hb d_S_waysThroughMeeting_26 rfl (lv_at hl 0 rfl) ?_
      refine wz_get (v := .ref (ak 0)) (T := T_S) (N := 12) hx hb hts i_S hown hK hP 0 0 rfl rfl rfl 5 (by decide) (hts _ kw_174) rfl rfl d_S_waysThroughMeeting_27 ?_
      refine wz_getN (v := .int (nI T.1.length)) (T := T_B) (N := 11) hx hb hts i_B hown hK hP 2 0 rfl rfl rfl 6 (by decide) (hN.1 _ (List.mem_of_getElem? (i := 8) rfl)) rfl rfl d_S_waysThroughMeeting_30 ?_
      refine wz_ge (tgt := 86) hx hb d_S_waysThroughMeeting_33 (by decide) (by omega) (by omega) (fun hc => ?_) (fun hc => ?_)
      · skip
        have htk : (T.1.drop lk).take u = T.1.drop lk := List.take_of_length_le (by rw [List.length_drop]; omega)
        have hway := pz_meet_ways hrv hbS hbT hi9 (by rw [← hl9]; exact hdist)
        rw [← hF9, ← hl9] at hway
        refine lv_lload_n hx hb d_S_waysThroughMeeting_86 rfl (lv_at hl 3 rfl) ?_
        exact wz_lret hx hb hr hlocks hK hP hD hS d_S_waysThroughMeeting_87 ⟨rfl, by rw [htk, hway]⟩
      · skip
        obtain ⟨x, hgx⟩ : ∃ x, T.1[lk + u]? = some x := ⟨_, List.getElem?_eq_getElem hc⟩
        obtain ⟨j, ej, hj⟩ := hblT.2.2.2 _ x hgx
        have hjl := (List.getElem?_eq_some_iff.mp hj).1
        have hgd : (T.1.drop lk)[u]? = some x := by rw [List.getElem?_drop]; exact hgx
        have hTx := (pz_ball_last hbT).mpr ⟨lk + u, by omega, hgx⟩
        have hsn : pz_sum F9 ((T.1.drop lk).take (u + 1)) = pz_sum F9 ((T.1.drop lk).take u) + F9 x := by rw [pz_take_snoc hgd, pz_sum_app, pz_sum_one]
        refine lv_aload_n hx hb d_S_waysThroughMeeting_36 rfl (lv_at hl 0 rfl) ?_
        refine wz_get (v := .ref (ak 0)) (T := T_S) (N := 12) hx hb hts i_S hown hK hP 0 0 rfl rfl rfl 5 (by decide) (hts _ kw_174) rfl rfl d_S_waysThroughMeeting_37 ?_
        refine wz_getN (v := .ref (ak 3)) (T := T_B) (N := 11) hx hb hts i_B hown hK hP 2 0 rfl rfl rfl 5 (by decide) (hN.1 _ (List.mem_of_getElem? (i := 7) rfl)) rfl rfl d_S_waysThroughMeeting_40 ?_
        refine lv_iload hx hb d_S_waysThroughMeeting_43 (lv_at hl 4 rfl) ?_
        refine wz_iald hx hb hK hP 2 3 (j := (lk + u)) rfl rfl (by omega) (by omega) d_S_waysThroughMeeting_45 ?_
        refine wz_topi (y := nI j) ej ?_
        refine lv_istore (lv' := [(6, .int (nI j)), (0, .ref (as9 0)), (1, .ref (ah 0)), (2, .int (nI i9)), (3, .long (lN (pz_sum F9 ((T.1.drop lk).take u)))), (5, .int (nI (lk + u)))]) hx hb d_S_waysThroughMeeting_46 hl (by decide) rfl (fun ls hl => ?_)
        refine lv_aload_n hx hb d_S_waysThroughMeeting_48 rfl (lv_at hl 2 rfl) ?_
        refine wz_getN (v := .ref (ah 1)) (T := T_B) (N := 11) hx hb hts i_B hown hK hP 1 0 rfl rfl rfl 3 (by decide) (hN.1 _ (List.mem_of_getElem? (i := 5) rfl)) rfl rfl d_S_waysThroughMeeting_49 ?_
        refine lv_iload hx hb d_S_waysThroughMeeting_52 (lv_at hl 0 rfl) ?_
        refine wz_iald hx hb hK hP 1 1 (j := j) rfl rfl (by omega) (by omega) d_S_waysThroughMeeting_54 ?_
        refine wz_topi (y := (bl_fo (S.2.1 x))) (hblS.2.1 j x hj).1 ?_
        refine lv_iload_n hx hb d_S_waysThroughMeeting_55 rfl (lv_at hl 3 rfl) ?_
        refine lv_icmp_ne (tgt := 80) hx hb d_S_waysThroughMeeting_56 (by decide) (fun hc2 => ?_) (fun hc2 => ?_)
        · skip
          have h0 : F9 x = 0 := by rw [hF9]; exact if_neg (fun q => hc2 ((bl_fo_s (fun e he => hltS x e he) (by omega)).mpr q))
          have hsn2 : pz_sum F9 ((T.1.drop lk).take u) = pz_sum F9 ((T.1.drop lk).take (u + 1)) := by rw [hsn, h0]; rfl
          rw [hsn2] at hl
          refine lv_iinc (v := nI ((lk + u) + 1)) (lv' := [(5, .int (nI ((lk + u) + 1))), (6, .int (nI j)), (0, .ref (as9 0)), (1, .ref (ah 0)), (2, .int (nI i9)), (3, .long (lN (pz_sum F9 ((T.1.drop lk).take (u + 1)))))]) hx hb d_S_waysThroughMeeting_80 hl (k := 5) rfl (nI_1 (lk + u)) (by decide) rfl (fun ls hl => ?_)
          refine lv_goto (tgt := 24) hx hb d_S_waysThroughMeeting_83 (by decide) ?_
          exact ih (u + 1) (by omega) (by omega) _ _ _ hP hD hS (lv_sub hl [2, 3, 4, 5, 0] rfl)
        · skip
          have hSx := (bl_fo_s (fun e he => hltS x e he) (by omega)).mp hc2
          have h0 : F9 x = pz_cnt x (pz_ends (bl_s n k 0 sg tu od me) sa i9) * pz_cnt x (pz_ends (bl_s n k 6 sg tu od me) gl dk) := by rw [hF9]; exact if_pos hSx
          rw [h0] at hsn
          refine lv_lload_n hx hb d_S_waysThroughMeeting_59 rfl (lv_at hl 4 rfl) ?_
          refine lv_aload_n hx hb d_S_waysThroughMeeting_60 rfl (lv_at hl 2 rfl) ?_
          refine wz_getN (v := .ref (ah 2)) (T := T_B) (N := 11) hx hb hts i_B hown hK hP 1 0 rfl rfl rfl 4 (by decide) (hN.1 _ (List.mem_of_getElem? (i := 6) rfl)) rfl rfl d_S_waysThroughMeeting_61 ?_
          refine lv_iload hx hb d_S_waysThroughMeeting_64 (lv_at hl 0 rfl) ?_
          refine wz_lald hx hb hK hP 1 2 (j := j) rfl rfl (by omega) (by omega) d_S_waysThroughMeeting_66 ?_
          refine wz_topl (y := (lN (pz_cnt x (pz_ends (bl_s n k 0 sg tu od me) sa i9)))) (((hblS.2.1 j x hj).2 (pz_sn hSx)).trans (pz_ball_ways hbS hSx)) ?_
          refine lv_aload_n hx hb d_S_waysThroughMeeting_67 rfl (lv_at hl 1 rfl) ?_
          refine wz_get (v := .ref (ak 0)) (T := T_S) (N := 12) hx hb hts i_S hown hK hP 0 0 rfl rfl rfl 5 (by decide) (hts _ kw_174) rfl rfl d_S_waysThroughMeeting_68 ?_
          refine wz_getN (v := .ref (ak 2)) (T := T_B) (N := 11) hx hb hts i_B hown hK hP 2 0 rfl rfl rfl 4 (by decide) (hN.1 _ (List.mem_of_getElem? (i := 6) rfl)) rfl rfl d_S_waysThroughMeeting_71 ?_
          refine lv_iload hx hb d_S_waysThroughMeeting_74 (lv_at hl 0 rfl) ?_
          refine wz_lald hx hb hK hP 2 2 (j := j) rfl rfl (by omega) (by omega) d_S_waysThroughMeeting_76 ?_
          refine wz_topl (y := (lN (pz_cnt x (pz_ends (bl_s n k 6 sg tu od me) gl dk)))) (((hblT.2.1 j x hj).2 (pz_sn hTx)).trans (pz_ball_ways hbT hTx)) ?_
          refine lv_lmul hx hb d_S_waysThroughMeeting_77 ?_
          refine wz_topl (y := (lN (pz_cnt x (pz_ends (bl_s n k 0 sg tu od me) sa i9) * pz_cnt x (pz_ends (bl_s n k 6 sg tu od me) gl dk)))) (lN_mul _ _) ?_
          refine lv_ladd hx hb d_S_waysThroughMeeting_78 ?_
          refine wz_topl (y := (lN (pz_sum F9 ((T.1.drop lk).take (u + 1))))) ((lN_add _ _).trans (by rw [hsn])) ?_
          refine lv_lstore_n (lv' := [(3, .long (lN (pz_sum F9 ((T.1.drop lk).take (u + 1))))), (6, .int (nI j)), (0, .ref (as9 0)), (1, .ref (ah 0)), (2, .int (nI i9)), (5, .int (nI (lk + u)))]) hx hb d_S_waysThroughMeeting_79 rfl hl (by decide) rfl (fun ls hl => ?_)
          refine lv_iinc (v := nI ((lk + u) + 1)) (lv' := [(5, .int (nI ((lk + u) + 1))), (3, .long (lN (pz_sum F9 ((T.1.drop lk).take (u + 1))))), (6, .int (nI j)), (0, .ref (as9 0)), (1, .ref (ah 0)), (2, .int (nI i9))]) hx hb d_S_waysThroughMeeting_80 hl (k := 5) rfl (nI_1 (lk + u)) (by decide) rfl (fun ls hl => ?_)
          refine lv_goto (tgt := 24) hx hb d_S_waysThroughMeeting_83 (by decide) ?_
          exact ih (u + 1) (by omega) (by omega) _ _ _ hP hD hS (lv_sub hl [3, 4, 5, 1, 0] rfl)
  exact loop (T.1.length + 1) 0 (by omega) (by omega) _ _ _ hP hD hS (lv_sub hl [3, 4, 2, 1, 0] rfl)
def po_S_leadBackFrom (q : wz_Q) (as9 ah ak ag am : Nat → Nat) (n b k : Nat) (rl rt : Nat → Nat) (fo : Nat → Int32) (M : Nat → Nat → Int32) (sg tu : Nat → Nat → Nat) (od : Nat → Nat) (a0 r1 r2 : Nat) (rw : Nat → Int32) (bg : Int32) (sx ro : Nat) (ln : Int32) (wz : Int64) (G : List Nat) (st sl : Nat → Int32) (L : Nat → Nat → Int32) (S : pz_S) (fa : Nat → Int32) (wy : Nat → Int64) (re : Nat → Int32) (ly dp : Nat) (me cm : Int32) (T : pz_S) (fk : Nat → Int32) (wk : Nat → Int64) (rk : Nat → Int32) (lk dk : Nat) (ck : Int32) (sa gl : Nat) (len e9 f9 x ix o jj : Nat) (cb : Bool) (TB : pz_S) : wz_G → Prop := fun w => ∃ (G' : List Nat) (st' sl' : Nat → Int32) (L' : Nat → Nat → Int32) (T' : pz_S) (fk' : Nat → Int32) (wk' : Nat → Int64) (rk' : Nat → Int32), w = [se_W q as9 n (am 0) (ag 0) r1 r2 (ak 0) (pz_fact n) rw bg sx ro ln wz, bl_W q ah (am 0) (ag 0) 0 (pz_fact n) fa wy re S.1.length ly dp me cm, bl_W q ak (am 0) (ag 0) 6 (pz_fact n) fk' wk' rk' T'.1.length lk dk me ck, gq_W q ag (am 0) (pz_fact n) (2 ^ b) (32 - b) rl st' sl' G'.length, wz_rows 12 rl (fun i9 => .inl (q.1, pz_fact n, .inl (L' i9))), mv_W q am n k rt fo, wz_rows 12 rt (fun i9 => .inl (q.1, 8, .inl (M i9)))] ∧ (∃ Nw, G' = G ++ Nw) ∧ gq_ok n a0 b k sg tu G' st' sl' L' ∧ (bl_ok (pz_fact n) G' S fa wy re ∧ bl_ok (pz_fact n) G' T' fk' wk' rk' ∧ (∀ c d, T.2.1 c = some d → T'.2.1 c = some d) ∧ (∃ Nw, T'.1 = T.1 ++ Nw) ∧ (∀ c e, T'.2.1 c = some e → e ≤ len)) ∧ pz_ld (bl_s n k 0 sg tu od me) (bl_s n k 6 sg tu od me) sa gl len lk dk S TB jj T' ∧ ∀ y, y ∈ pz_tm (bl_g n 6 sg tu o) x (bl_mt me od o) → S.2.1 y = some f9 → T'.2.1 y ≠ none
set_option maxHeartbeats 4000000 in
set_option maxRecDepth 100000 in
/-- what leads to a state by a move, and lies nearer to the start -/
theorem c_S_leadBackFrom (l : Launch) (D : va_G) (q : wz_Q) (as9 ah ak ag am : Nat → Nat) (n b k : Nat) (rl rt : Nat → Nat) (fo : Nat → Int32) (M : Nat → Nat → Int32) (sg tu : Nat → Nat → Nat) (od : Nat → Nat) (a0 r1 r2 : Nat) (rw : Nat → Int32) (bg : Int32) (sx ro : Nat) (ln : Int32) (wz : Int64) (G : List Nat) (st sl : Nat → Int32) (L : Nat → Nat → Int32) (S : pz_S) (fa : Nat → Int32) (wy : Nat → Int64) (re : Nat → Int32) (ly dp : Nat) (me cm : Int32) (T : pz_S) (fk : Nat → Int32) (wk : Nat → Int64) (rk : Nat → Int32) (lk dk : Nat) (ck : Int32) (sa gl : Nat) (len e9 f9 x ix o jj : Nat) (cb : Bool) (TB : pz_S) (hn : n ≤ 8) (hb0 : 0 < b) (hb30 : b ≤ 30) (hM : pz_fact n < 2 ^ b) (hk : k ≤ 6) (hmv : mv_ok n k fo M sg tu od) (hok : gq_ok n a0 b k sg tu G st sl L) (hblS : bl_ok (pz_fact n) G S fa wy re) (hblT : bl_ok (pz_fact n) G T fk wk rk) (hrv : ∀ u v, pz_cnt v (bl_s n k 0 sg tu od me u) = pz_cnt u (bl_s n k 6 sg tu od me v)) (hbS : pz_ball (bl_s n k 0 sg tu od me) sa ly dp cb S) (hdS : dp ≤ ly) (hdist : pz_dist (bl_s n k 0 sg tu od me) sa gl len) (hle : ∀ c e, T.2.1 c = some e → e ≤ len) (hlen : len < 2 ^ 20) (hld : pz_ld (bl_s n k 0 sg tu od me) (bl_s n k 6 sg tu od me) sa gl len lk dk S TB jj T) (hjj : jj ≤ T.1.length) (ho : o < k) (hix : G[ix]? = some x) (hTx : T.2.1 x = some e9) (hSx : S.2.1 x = some (f9 + 1)) (hfe : f9 + 1 + e9 = len) (hdk9 : dk ≤ e9) : wz_Mv l y_S_leadBackFrom ws_S_leadBackFrom ({ frames := 3, cells := 0, slots := 0, locals := 72 } : Room) D q ([.ref (as9 0), .int (nI ix), .int (nI o), .ref (ah 0)] : List Value) [se_W q as9 n (am 0) (ag 0) r1 r2 (ak 0) (pz_fact n) rw bg sx ro ln wz, bl_W q ah (am 0) (ag 0) 0 (pz_fact n) fa wy re S.1.length ly dp me cm, bl_W q ak (am 0) (ag 0) 6 (pz_fact n) fk wk rk T.1.length lk dk me ck, gq_W q ag (am 0) (pz_fact n) (2 ^ b) (32 - b) rl st sl G.length, wz_rows 12 rl (fun i9 => .inl (q.1, pz_fact n, .inl (L i9))), mv_W q am n k rt fo, wz_rows 12 rt (fun i9 => .inl (q.1, 8, .inl (M i9)))] (po_S_leadBackFrom q as9 ah ak ag am n b k rl rt fo M sg tu od a0 r1 r2 rw bg sx ro ln wz G st sl L S fa wy re ly dp me cm T fk wk rk lk dk ck sa gl len e9 f9 x ix o jj cb TB) 0 0 := by
  intro sz9
  refine wz_enter (cc := b_S_leadBackFrom) (maxL := 8) (ret := none) (Qc := fun A => (va_Qv (po_S_leadBackFrom q as9 ah ak ag am n b k rl rt fo M sg tu od a0 r1 r2 rw bg sx ro ln wz G st sl L S fa wy re ly dp me cm T fk wk rk lk dk ck sa gl len e9 f9 x ix o jj cb TB) (wz_At D q A) A)) (by decide) (Nat.le_of_ble_eq_true rfl) ?_
  intro p e s m below meth c A ls C hP hD hS hl
  obtain ⟨hx, hb, hr, hml, hlocks, hown, hts, hN, hK, hA, hnm⟩ := C
  have hown : s.vm.findClass "TwoEndSearch$Search" = some m.cls := hown
  have hl : lv_has ls 8 [(0, .ref (as9 0)), (1, .int (nI ix)), (2, .int (nI o)), (3, .ref (ah 0))] := hl
  have hfl := pz_fact_le hn
  have hGl := gq_len hok
  have hSl := bl_len hblS
  have hlyS := hbS.2.1
  have hltS : ∀ x e, S.2.1 x = some e → e < 2 ^ 30 := pz_ball_lt hbS (by omega)
  have hixl := (List.getElem?_eq_some_iff.mp hix).1
  have hmt := bl_mt_le (me := me) hmv ho
  have huw := bl_way hk (Or.inr rfl) ho
  refine lv_aload_n hx hb d_S_leadBackFrom_0 rfl (lv_at hl 0 rfl) ?_
  refine wz_get (v := .ref (am 0)) (T := T_S) (N := 12) hx hb hts i_S hown hK hP 0 0 rfl rfl rfl 1 (by decide) (hts _ kw_170) rfl rfl d_S_leadBackFrom_1 ?_
  refine lv_aload_n hx hb d_S_leadBackFrom_4 rfl (lv_at hl 0 rfl) ?_
  refine wz_get (v := .ref (ak 0)) (T := T_S) (N := 12) hx hb hts i_S hown hK hP 0 0 rfl rfl rfl 5 (by decide) (hts _ kw_174) rfl rfl d_S_leadBackFrom_5 ?_
  refine wz_getN (v := .int me) (T := T_B) (N := 11) hx hb hts i_B hown hK hP 2 0 rfl rfl rfl 9 (by decide) (hN.1 _ (List.mem_of_getElem? (i := 12) rfl)) rfl rfl d_S_leadBackFrom_8 ?_
  refine lv_iload_n hx hb d_S_leadBackFrom_11 rfl (lv_at hl 2 rfl) ?_
  have hQ := wz_split (n := 7) (gc := [mv_W q am n k rt fo]) (gr := [se_W q as9 n (am 0) (ag 0) r1 r2 (ak 0) (pz_fact n) rw bg sx ro ln wz, bl_W q ah (am 0) (ag 0) 0 (pz_fact n) fa wy re S.1.length ly dp me cm, bl_W q ak (am 0) (ag 0) 6 (pz_fact n) fk wk rk T.1.length lk dk me ck, gq_W q ag (am 0) (pz_fact n) (2 ^ b) (32 - b) rl st sl G.length, wz_rows 12 rl (fun i9 => .inl (q.1, pz_fact n, .inl (L i9))), wz_rows 12 rt (fun i9 => .inl (q.1, 8, .inl (M i9)))]) [5] [0, 1, 2, 3, 4, 6] rfl (by decide) rfl rfl hP hD
  refine wz_calli (va_runV (As := [.int me, .int (nI o)]) (rest := []) ⟨hx, hb, hml, hown, hts⟩ (c_M_mostTimes l D q am n k rt fo me o (by omega) _) (cwV 2 hts (wz_goodV kw_381 kw_360 kw_361 kw_32 kw_362) rfl rfl rfl (by decide +kernel) ⟨Nat.le_of_ble_eq_true rfl, Nat.le_of_ble_eq_true rfl⟩) (wz_preV (gi := 0) (k := 0) hN hK hQ wz_L_ok rfl rfl rfl) rfl rfl hl.1 rfl (lv_room (Nat.le_of_ble_eq_true rfl)) d_S_leadBackFrom_12 ⟨Nat.le_of_ble_eq_true rfl, Nat.le_of_ble_eq_true rfl⟩) hQ hS hA (fun v_12 gx H locs hp hP hD hS => ?_)
  obtain ⟨rfl, rfl⟩ := hp
  obtain ⟨hP, hD⟩ := wz_ord (n := 7) (gs' := [se_W q as9 n (am 0) (ag 0) r1 r2 (ak 0) (pz_fact n) rw bg sx ro ln wz, bl_W q ah (am 0) (ag 0) 0 (pz_fact n) fa wy re S.1.length ly dp me cm, bl_W q ak (am 0) (ag 0) 6 (pz_fact n) fk wk rk T.1.length lk dk me ck, gq_W q ag (am 0) (pz_fact n) (2 ^ b) (32 - b) rl st sl G.length, wz_rows 12 rl (fun i9 => .inl (q.1, pz_fact n, .inl (L i9))), mv_W q am n k rt fo, wz_rows 12 rt (fun i9 => .inl (q.1, 8, .inl (M i9)))]) [1, 2, 3, 4, 5, 0, 6] rfl (by decide) rfl hP hD
  refine wz_topi (y := nI (bl_mt me od o)) (bl_mt_eq hmv ho) ?_
  refine lv_istore (lv' := [(4, .int (nI (bl_mt me od o))), (0, .ref (as9 0)), (1, .int (nI ix)), (2, .int (nI o)), (3, .ref (ah 0))]) hx hb d_S_leadBackFrom_15 hl (by decide) rfl (fun ls hl => ?_)
  refine lv_aload_n hx hb d_S_leadBackFrom_17 rfl (lv_at hl 4 rfl) ?_
  refine wz_getN (v := .ref (ah 1)) (T := T_B) (N := 11) hx hb hts i_B hown hK hP 1 0 rfl rfl rfl 3 (by decide) (hN.1 _ (List.mem_of_getElem? (i := 5) rfl)) rfl rfl d_S_leadBackFrom_18 ?_
  refine lv_iload_n hx hb d_S_leadBackFrom_21 rfl (lv_at hl 2 rfl) ?_
  refine wz_iald hx hb hK hP 1 1 (j := ix) rfl rfl (by omega) (by omega) d_S_leadBackFrom_22 ?_
  refine wz_topi (y := nI (f9 + 1)) ((hblS.2.1 ix x hix).1.trans (by rw [hSx]; rfl)) ?_
  refine lv_iconst (v := nI 1) hx hb d_S_leadBackFrom_23 (by decide) ?_
  refine lv_isub hx hb d_S_leadBackFrom_24 ?_
  refine wz_topi (y := nI f9) (show _ = nI f9 from pk_sub (a := f9 + 1) (b := 1) (by omega)) ?_
  refine lv_istore (lv' := [(5, .int (nI f9)), (4, .int (nI (bl_mt me od o))), (0, .ref (as9 0)), (1, .int (nI ix)), (2, .int (nI o)), (3, .ref (ah 0))]) hx hb d_S_leadBackFrom_25 hl (by decide) rfl (fun ls hl => ?_)
  refine lv_iload_n hx hb d_S_leadBackFrom_27 rfl (lv_at hl 3 rfl) ?_
  refine lv_istore (lv' := [(6, .int (nI ix)), (5, .int (nI f9)), (4, .int (nI (bl_mt me od o))), (0, .ref (as9 0)), (1, .int (nI ix)), (2, .int (nI o)), (3, .ref (ah 0))]) hx hb d_S_leadBackFrom_28 hl (by decide) rfl (fun ls hl => ?_)
  refine lv_iconst (v := nI 1) hx hb d_S_leadBackFrom_30 (by decide) ?_
  refine lv_istore (lv' := [(7, .int (nI 1)), (6, .int (nI ix)), (5, .int (nI f9)), (4, .int (nI (bl_mt me od o))), (0, .ref (as9 0)), (1, .int (nI ix)), (2, .int (nI o)), (3, .ref (ah 0))]) hx hb d_S_leadBackFrom_31 hl (by decide) rfl (fun ls hl => ?_)
  have loop : ∀ (d : Nat) (t j : Nat) (G1 : List Nat) (st1 sl1 : Nat → Int32) (L1 : Nat → Nat → Int32) (T1 : pz_S) (fk1 : Nat → Int32) (wk1 : Nat → Int64) (rk1 : Nat → Int32), t ≤ bl_mt me od o → bl_mt me od o + 1 ≤ t + d → G1[j]? = some (pz_it (bl_g n 6 sg tu o) t x) → (∃ Nw, G1 = G ++ Nw) → gq_ok n a0 b k sg tu G1 st1 sl1 L1 → bl_ok (pz_fact n) G1 S fa wy re → bl_ok (pz_fact n) G1 T1 fk1 wk1 rk1 → (∀ c d, T.2.1 c = some d → T1.2.1 c = some d) → (∃ Nw, T1.1 = T.1 ++ Nw) → (∀ c e, T1.2.1 c = some e → e ≤ len) → pz_ld (bl_s n k 0 sg tu od me) (bl_s n k 6 sg tu od me) sa gl len lk dk S TB jj T1 → (∀ y, y ∈ pz_tm (bl_g n 6 sg tu o) x t → S.2.1 y = some f9 → T1.2.1 y ≠ none) → ∀ (H : Heap) (locs : List Loc) (ls : Array Slot), va_P D vwCl ([se_W q as9 n (am 0) (ag 0) r1 r2 (ak 0) (pz_fact n) rw bg sx ro ln wz, bl_W q ah (am 0) (ag 0) 0 (pz_fact n) fa wy re S.1.length ly dp me cm, bl_W q ak (am 0) (ag 0) 6 (pz_fact n) fk1 wk1 rk1 T1.1.length lk dk me ck, gq_W q ag (am 0) (pz_fact n) (2 ^ b) (32 - b) rl st1 sl1 G1.length, wz_rows 12 rl (fun i9 => .inl (q.1, pz_fact n, .inl (L1 i9))), mv_W q am n k rt fo, wz_rows 12 rt (fun i9 => .inl (q.1, 8, .inl (M i9)))] : wz_G).flatten H → va_D A ([se_W q as9 n (am 0) (ag 0) r1 r2 (ak 0) (pz_fact n) rw bg sx ro ln wz, bl_W q ah (am 0) (ag 0) 0 (pz_fact n) fa wy re S.1.length ly dp me cm, bl_W q ak (am 0) (ag 0) 6 (pz_fact n) fk1 wk1 rk1 T1.1.length lk dk me ck, gq_W q ag (am 0) (pz_fact n) (2 ^ b) (32 - b) rl st1 sl1 G1.length, wz_rows 12 rl (fun i9 => .inl (q.1, pz_fact n, .inl (L1 i9))), mv_W q am n k rt fo, wz_rows 12 rt (fun i9 => .inl (q.1, 8, .inl (M i9)))] : wz_G).flatten → va_S A s.heap H locs → lv_has ls 8 [(0, .ref (as9 0)), (1, .int (nI ix)), (2, .int (nI o)), (3, .ref (ah 0)), (4, .int (nI (bl_mt me od o))), (5, .int (nI f9)), (6, .int (nI j)), (7, .int (nI (t + 1)))] → W p l e ({ frames := 3, cells := 0, slots := 0, locals := 72 } : Room) s m ([.ref (as9 0), .int (nI ix), .int (nI o), .ref (ah 0)] : List Value).toArray below meth c H locs 0 0 (MQ below (va_Qv (po_S_leadBackFrom q as9 ah ak ag am n b k rl rt fo M sg tu od a0 r1 r2 rw bg sx ro ln wz G st sl L S fa wy re ly dp me cm T fk wk rk lk dk ck sa gl len e9 f9 x ix o jj cb TB) (wz_At D q A) A) ([.ref (as9 0), .int (nI ix), .int (nI o), .ref (ah 0)] : List Value).toArray s 0 0 A) (F0 m 33 ls []) := by
    intro d
    induction d with
    | zero =>
      intro t j G1 st1 sl1 L1 T1 fk1 wk1 rk1 ht hd hj hp1 hok1 hS1 hT1 hkeep hpre hle1 hld1 hall
      omega
    | succ d ih =>
      intro t j G1 st1 sl1 L1 T1 fk1 wk1 rk1 ht hd hj hp1 hok1 hS1 hT1 hkeep hpre hle1 hld1 hall H locs ls hP hD hS hl
      refine lv_iload hx hb d_S_leadBackFrom_33 (lv_at hl 7 rfl) ?_
      refine lv_iload hx hb d_S_leadBackFrom_35 (lv_at hl 4 rfl) ?_
      refine wz_gt (tgt := 107) hx hb d_S_leadBackFrom_37 (by decide) (by omega) (by omega) (fun hc => ?_) (fun hc => ?_)
      · skip
        have hte : t = bl_mt me od o := by omega
        subst hte
        exact wz_vret hx hb hr hlocks hK hP hD hS d_S_leadBackFrom_107 ⟨G1, st1, sl1, L1, T1, fk1, wk1, rk1, rfl, hp1, hok1, ⟨hS1, hT1, hkeep, hpre, hle1⟩, hld1, hall⟩
      · skip
        refine lv_aload_n hx hb d_S_leadBackFrom_40 rfl (lv_at hl 0 rfl) ?_
        refine wz_get (v := .ref (ag 0)) (T := T_S) (N := 12) hx hb hts i_S hown hK hP 0 0 rfl rfl rfl 2 (by decide) (hts _ kw_171) rfl rfl d_S_leadBackFrom_41 ?_
        refine lv_iload_n hx hb d_S_leadBackFrom_44 rfl (lv_at hl 2 rfl) ?_
        refine lv_bipush (v := nI 6) hx hb d_S_leadBackFrom_45 (by decide) ?_
        refine lv_iadd hx hb d_S_leadBackFrom_47 ?_
        refine wz_topi (y := nI (6 + o)) ((nI_add _ _).trans (congrArg nI (Nat.add_comm _ _))) ?_
        refine lv_iload hx hb d_S_leadBackFrom_48 (lv_at hl 6 rfl) ?_
        have hQ := wz_split (n := 7) (gc := [gq_W q ag (am 0) (pz_fact n) (2 ^ b) (32 - b) rl st1 sl1 G1.length, wz_rows 12 rl (fun i9 => .inl (q.1, pz_fact n, .inl (L1 i9))), mv_W q am n k rt fo, wz_rows 12 rt (fun i9 => .inl (q.1, 8, .inl (M i9)))]) (gr := [se_W q as9 n (am 0) (ag 0) r1 r2 (ak 0) (pz_fact n) rw bg sx ro ln wz, bl_W q ah (am 0) (ag 0) 0 (pz_fact n) fa wy re S.1.length ly dp me cm, bl_W q ak (am 0) (ag 0) 6 (pz_fact n) fk1 wk1 rk1 T1.1.length lk dk me ck]) [3, 4, 5, 6] [0, 1, 2] rfl (by decide) rfl rfl hP hD
        refine wz_calli (va_runV (As := [.int (nI (6 + o)), .int (nI j)]) (rest := []) ⟨hx, hb, hml, hown, hts⟩ (c_G_follow l D q ag am n b k rl rt fo st1 sl1 L1 sg tu G1 M od a0 (6 + o) j (pz_it (bl_g n 6 sg tu o) t x) hn hb0 hb30 hM hk hok1 hmv huw hj _) (cwV 2 hts (wz_goodV kw_382 kw_364 kw_365 kw_34 kw_366) rfl rfl rfl (by decide +kernel) ⟨Nat.le_of_ble_eq_true rfl, Nat.le_of_ble_eq_true rfl⟩) (wz_preV (gi := 0) (k := 0) hN hK hQ wz_L_ok rfl rfl rfl) rfl rfl hl.1 rfl (lv_room (Nat.le_of_ble_eq_true rfl)) d_S_leadBackFrom_50 ⟨Nat.le_of_ble_eq_true rfl, Nat.le_of_ble_eq_true rfl⟩) hQ hS hA (fun v_50 gx H locs hp hP hD hS => ?_)
        obtain ⟨G2, st2, sl2, L2, c9, j2, rfl, rfl, rfl, hj2, hNw2, hok2⟩ := hp
        obtain ⟨hP, hD⟩ := wz_ord (n := 7) (gs' := [se_W q as9 n (am 0) (ag 0) r1 r2 (ak 0) (pz_fact n) rw bg sx ro ln wz, bl_W q ah (am 0) (ag 0) 0 (pz_fact n) fa wy re S.1.length ly dp me cm, bl_W q ak (am 0) (ag 0) 6 (pz_fact n) fk1 wk1 rk1 T1.1.length lk dk me ck, gq_W q ag (am 0) (pz_fact n) (2 ^ b) (32 - b) rl st2 sl2 G2.length, wz_rows 12 rl (fun i9 => .inl (q.1, pz_fact n, .inl (L2 i9))), mv_W q am n k rt fo, wz_rows 12 rt (fun i9 => .inl (q.1, 8, .inl (M i9)))]) [4, 5, 6, 0, 1, 2, 3] rfl (by decide) rfl hP hD
        obtain ⟨Na, hNa⟩ := hp1
        obtain ⟨Nb, hNb⟩ := hNw2
        have hj2 : G2[j2]? = some (pz_it (bl_g n 6 sg tu o) (t + 1) x) := hj2
        have hG2l := gq_len hok2
        have hS2 := bl_more hS1 ⟨Nb, hNb⟩ hok2.1 hG2l
        have hT2 := bl_more hT1 ⟨Nb, hNb⟩ hok2.1 hG2l
        have hj2l := (List.getElem?_eq_some_iff.mp hj2).1
        have hix2 : G2[ix]? = some x := by rw [hNb, hNa, List.append_assoc, List.getElem?_append_left hixl]; exact hix
        have hix2l := (List.getElem?_eq_some_iff.mp hix2).1
        have hyr : pz_it (bl_g n 6 sg tu o) (t + 1) x ∈ bl_s n k 6 sg tu od me x := pz_st_mem.mpr ⟨o, t + 1, ho, by omega, by omega, rfl⟩
        obtain ⟨Np, hNp⟩ := hpre
        have hTx1 := hkeep x e9 hTx
        have hone := pz_ld_one hrv hbS hdist hld1 (by rw [hNp, List.length_append]; omega) hTx1 hdk9 hfe hyr
        have htm : pz_tm (bl_g n 6 sg tu o) x (t + 1) = pz_tm (bl_g n 6 sg tu o) x t ++ [pz_it (bl_g n 6 sg tu o) (t + 1) x] := rfl
        have hlt1 : ∀ c e, T1.2.1 c = some e → e < 2 ^ 30 := fun c e h9 => by have := hle1 c e h9; omega
        generalize hcd : pz_it (bl_g n 6 sg tu o) (t + 1) x = cd at hj2 hyr hone htm
        refine lv_istore (lv' := [(6, .int (nI j2)), (0, .ref (as9 0)), (1, .int (nI ix)), (2, .int (nI o)), (3, .ref (ah 0)), (4, .int (nI (bl_mt me od o))), (5, .int (nI f9)), (7, .int (nI (t + 1)))]) hx hb d_S_leadBackFrom_53 hl (by decide) rfl (fun ls hl => ?_)
        refine lv_aload_n hx hb d_S_leadBackFrom_55 rfl (lv_at hl 4 rfl) ?_
        refine wz_getN (v := .ref (ah 1)) (T := T_B) (N := 11) hx hb hts i_B hown hK hP 1 0 rfl rfl rfl 3 (by decide) (hN.1 _ (List.mem_of_getElem? (i := 5) rfl)) rfl rfl d_S_leadBackFrom_56 ?_
        refine lv_iload hx hb d_S_leadBackFrom_59 (lv_at hl 0 rfl) ?_
        refine wz_iald hx hb hK hP 1 1 (j := j2) rfl rfl (by omega) (by omega) d_S_leadBackFrom_61 ?_
        refine wz_topi (y := (bl_fo (S.2.1 cd))) (hS2.2.1 j2 cd hj2).1 ?_
        refine lv_iload hx hb d_S_leadBackFrom_62 (lv_at hl 6 rfl) ?_
        refine lv_icmp_ne (tgt := 101) hx hb d_S_leadBackFrom_64 (by decide) (fun hc2 => ?_) (fun hc2 => ?_)
        · skip
          refine lv_iinc (v := nI ((t + 1) + 1)) (lv' := [(7, .int (nI ((t + 1) + 1))), (6, .int (nI j2)), (0, .ref (as9 0)), (1, .int (nI ix)), (2, .int (nI o)), (3, .ref (ah 0)), (4, .int (nI (bl_mt me od o))), (5, .int (nI f9))]) hx hb d_S_leadBackFrom_101 hl (k := 7) rfl (nI_1 (t + 1)) (by decide) rfl (fun ls hl => ?_)
          refine lv_goto (tgt := 33) hx hb d_S_leadBackFrom_104 (by decide) ?_
          exact ih (t + 1) j2 G2 st2 sl2 L2 T1 fk1 wk1 rk1 (by omega) (by omega) (by rw [hcd]; exact hj2) ⟨Na ++ Nb, by rw [hNb, hNa, List.append_assoc]⟩ hok2 hS2 hT2 hkeep ⟨Np, hNp⟩ hle1 hld1 (fun y hy hSy => by
            rw [htm] at hy
            rcases List.mem_append.mp hy with q | q
            · exact hall y q hSy
            · rw [List.mem_singleton.mp q] at hSy ⊢
              exact absurd ((bl_fo_s (fun e he => hltS _ e he) (by omega)).mpr hSy) hc2) _ _ _ hP hD hS (lv_sub hl [2, 3, 4, 5, 6, 7, 1, 0] rfl)
        · skip
          have hSy := (bl_fo_s (fun e he => hltS cd e he) (by omega)).mp hc2
          have hld2 : pz_lead S f9 (e9 + 1) T1 cd = pz_take (e9 + 1) T1 cd := if_pos hSy
          rw [hld2] at hone
          refine lv_aload_n hx hb d_S_leadBackFrom_67 rfl (lv_at hl 1 rfl) ?_
          refine wz_get (v := .ref (ak 0)) (T := T_S) (N := 12) hx hb hts i_S hown hK hP 0 0 rfl rfl rfl 5 (by decide) (hts _ kw_174) rfl rfl d_S_leadBackFrom_68 ?_
          refine wz_getN (v := .ref (ak 1)) (T := T_B) (N := 11) hx hb hts i_B hown hK hP 2 0 rfl rfl rfl 3 (by decide) (hN.1 _ (List.mem_of_getElem? (i := 5) rfl)) rfl rfl d_S_leadBackFrom_71 ?_
          refine lv_iload hx hb d_S_leadBackFrom_74 (lv_at hl 0 rfl) ?_
          refine wz_iald hx hb hK hP 2 1 (j := j2) rfl rfl (by omega) (by omega) d_S_leadBackFrom_76 ?_
          refine wz_topi (y := (bl_fo (T1.2.1 cd))) (hT2.2.1 j2 cd hj2).1 ?_
          refine lv_iconst (v := (-1)) hx hb d_S_leadBackFrom_77 (by decide) ?_
          refine lv_icmp_ne (tgt := 101) hx hb d_S_leadBackFrom_78 (by decide) (fun hc3 => ?_) (fun hc3 => ?_)
          · skip
            have hkn : T1.2.1 cd ≠ none := fun q => hc3 (by rw [q]; rfl)
            refine lv_iinc (v := nI ((t + 1) + 1)) (lv' := [(7, .int (nI ((t + 1) + 1))), (6, .int (nI j2)), (0, .ref (as9 0)), (1, .int (nI ix)), (2, .int (nI o)), (3, .ref (ah 0)), (4, .int (nI (bl_mt me od o))), (5, .int (nI f9))]) hx hb d_S_leadBackFrom_101 hl (k := 7) rfl (nI_1 (t + 1)) (by decide) rfl (fun ls hl => ?_)
            refine lv_goto (tgt := 33) hx hb d_S_leadBackFrom_104 (by decide) ?_
            exact ih (t + 1) j2 G2 st2 sl2 L2 T1 fk1 wk1 rk1 (by omega) (by omega) (by rw [hcd]; exact hj2) ⟨Na ++ Nb, by rw [hNb, hNa, List.append_assoc]⟩ hok2 hS2 hT2 hkeep ⟨Np, hNp⟩ hle1 hld1 (fun y hy hSy => by
              rw [htm] at hy
              rcases List.mem_append.mp hy with q | q
              · exact hall y q hSy
              · rw [List.mem_singleton.mp q] at hSy ⊢
                exact hkn) _ _ _ hP hD hS (lv_sub hl [2, 3, 4, 5, 6, 7, 1, 0] rfl)
          · skip
            have hnone : T1.2.1 cd = none := (bl_fo_n (fun e he => hlt1 cd e he)).mp hc3
            have hnew := bl_new hT2 (List.mem_of_getElem? hj2) hnone
            refine lv_aload_n hx hb d_S_leadBackFrom_81 rfl (lv_at hl 1 rfl) ?_
            refine wz_get (v := .ref (ak 0)) (T := T_S) (N := 12) hx hb hts i_S hown hK hP 0 0 rfl rfl rfl 5 (by decide) (hts _ kw_174) rfl rfl d_S_leadBackFrom_82 ?_
            refine lv_iload hx hb d_S_leadBackFrom_85 (lv_at hl 0 rfl) ?_
            refine lv_aload_n hx hb d_S_leadBackFrom_87 rfl (lv_at hl 1 rfl) ?_
            refine wz_get (v := .ref (ak 0)) (T := T_S) (N := 12) hx hb hts i_S hown hK hP 0 0 rfl rfl rfl 5 (by decide) (hts _ kw_174) rfl rfl d_S_leadBackFrom_88 ?_
            refine wz_getN (v := .ref (ak 1)) (T := T_B) (N := 11) hx hb hts i_B hown hK hP 2 0 rfl rfl rfl 3 (by decide) (hN.1 _ (List.mem_of_getElem? (i := 5) rfl)) rfl rfl d_S_leadBackFrom_91 ?_
            refine lv_iload_n hx hb d_S_leadBackFrom_94 rfl (lv_at hl 2 rfl) ?_
            refine wz_iald hx hb hK hP 2 1 (j := ix) rfl rfl (by omega) (by omega) d_S_leadBackFrom_95 ?_
            refine wz_topi (y := nI e9) ((hT2.2.1 ix x hix2).1.trans (by rw [hTx1]; rfl)) ?_
            refine lv_iconst (v := nI 1) hx hb d_S_leadBackFrom_96 (by decide) ?_
            refine lv_iadd hx hb d_S_leadBackFrom_97 ?_
            refine wz_topi (y := nI (e9 + 1)) (nI_add e9 1) ?_
            have hQ := wz_split (n := 7) (gc := [bl_W q ak (am 0) (ag 0) 6 (pz_fact n) fk1 wk1 rk1 T1.1.length lk dk me ck]) (gr := [se_W q as9 n (am 0) (ag 0) r1 r2 (ak 0) (pz_fact n) rw bg sx ro ln wz, bl_W q ah (am 0) (ag 0) 0 (pz_fact n) fa wy re S.1.length ly dp me cm, gq_W q ag (am 0) (pz_fact n) (2 ^ b) (32 - b) rl st2 sl2 G2.length, wz_rows 12 rl (fun i9 => .inl (q.1, pz_fact n, .inl (L2 i9))), mv_W q am n k rt fo, wz_rows 12 rt (fun i9 => .inl (q.1, 8, .inl (M i9)))]) [2] [0, 1, 3, 4, 5, 6] rfl (by decide) rfl rfl hP hD
            refine wz_callv (va_runV (As := [.int (nI j2), .int (nI (e9 + 1))]) (rest := []) ⟨hx, hb, hml, hown, hts⟩ (c_B_take l D q ak (am 0) (ag 0) 6 (pz_fact n) fk1 wk1 rk1 T1.1.length lk dk me ck j2 (e9 + 1) (by omega) (by omega) (by omega) _) (cwV 2 hts (wz_goodV kw_383 kw_324 kw_325 kw_35 kw_326) rfl rfl rfl (by decide +kernel) ⟨Nat.le_of_ble_eq_true rfl, Nat.le_of_ble_eq_true rfl⟩) (wz_preV (gi := 0) (k := 0) hN hK hQ wz_L_ok rfl rfl rfl) rfl rfl hl.1 rfl (lv_room (Nat.le_of_ble_eq_true rfl)) d_S_leadBackFrom_98 ⟨Nat.le_of_ble_eq_true rfl, Nat.le_of_ble_eq_true rfl⟩) hQ hS hA (fun gx H locs hp hP hD hS => ?_)
            have hp : gx = _ := hp
            subst hp
            obtain ⟨hP, hD⟩ := wz_ord (n := 7) (gs' := [se_W q as9 n (am 0) (ag 0) r1 r2 (ak 0) (pz_fact n) rw bg sx ro ln wz, bl_W q ah (am 0) (ag 0) 0 (pz_fact n) fa wy re S.1.length ly dp me cm, bl_W q ak (am 0) (ag 0) 6 (pz_fact n) (upd fk1 j2 (nI (e9 + 1))) (vp_updL wk1 j2 0) (upd rk1 T1.1.length (nI j2)) (T1.1.length + 1) lk dk me ck, gq_W q ag (am 0) (pz_fact n) (2 ^ b) (32 - b) rl st2 sl2 G2.length, wz_rows 12 rl (fun i9 => .inl (q.1, pz_fact n, .inl (L2 i9))), mv_W q am n k rt fo, wz_rows 12 rt (fun i9 => .inl (q.1, 8, .inl (M i9)))]) [1, 2, 0, 3, 4, 5, 6] rfl (by decide) rfl hP hD
            have hT3 := bl_take (d := e9 + 1) hT2 hok2.1 hj2 hnone
            rw [← bl_take_len (d := e9 + 1) hnone] at hP hD
            obtain ⟨T2, hT2e⟩ : ∃ T2, T2 = pz_take (e9 + 1) T1 cd := ⟨_, rfl⟩
            rw [← hT2e] at hP hD hT3 hone
            obtain ⟨Nq, hNq⟩ := hone.2.2.2
            have hle2 : ∀ c e, T2.2.1 c = some e → e ≤ len := by
              intro c e h9
              rw [hT2e, pz_take_2] at h9
              by_cases q : c = cd ∧ T1.2.1 cd = none
              · rw [if_pos q] at h9; cases h9; omega
              · rw [if_neg q] at h9; exact hle1 c e h9
            refine lv_iinc (v := nI ((t + 1) + 1)) (lv' := [(7, .int (nI ((t + 1) + 1))), (6, .int (nI j2)), (0, .ref (as9 0)), (1, .int (nI ix)), (2, .int (nI o)), (3, .ref (ah 0)), (4, .int (nI (bl_mt me od o))), (5, .int (nI f9))]) hx hb d_S_leadBackFrom_101 hl (k := 7) rfl (nI_1 (t + 1)) (by decide) rfl (fun ls hl => ?_)
            refine lv_goto (tgt := 33) hx hb d_S_leadBackFrom_104 (by decide) ?_
            exact ih (t + 1) j2 G2 st2 sl2 L2 T2 (upd fk1 j2 (nI (e9 + 1))) (vp_updL wk1 j2 0) (upd rk1 T1.1.length (nI j2)) (by omega) (by omega) (by rw [hcd]; exact hj2) ⟨Na ++ Nb, by rw [hNb, hNa, List.append_assoc]⟩ hok2 hS2 hT3 (fun c d h9 => hone.2.2.1 c d (hkeep c d h9)) ⟨Np ++ Nq, by rw [hNq, hNp, List.append_assoc]⟩ hle2 hone.1 (fun y hy hSy9 => by
              rw [htm] at hy
              rcases List.mem_append.mp hy with q | q
              · obtain ⟨e, he⟩ := pz_mem_far hld1.1 ((hld1.1.2 y).mpr (hall y q hSy9))
                exact pz_sn (hone.2.2.1 y e he)
              · rw [List.mem_singleton.mp q]
                exact hone.2.1 hSy) _ _ _ hP hD hS (lv_sub hl [2, 3, 4, 5, 6, 7, 1, 0] rfl)
  exact loop (bl_mt me od o + 1) 0 ix G st sl L T fk wk rk (by omega) (by omega) hix ⟨[], by simp⟩ hok hblS hblT (fun _ _ h9 => h9) ⟨[], by simp⟩ hle hld (fun y hy => absurd hy List.not_mem_nil) _ _ _ hP hD hS (lv_sub hl [4, 5, 6, 7, 3, 2, 1, 0] rfl)
def po_S_leadBackToStart (q : wz_Q) (as9 ah ak ag am : Nat → Nat) (n b k : Nat) (rl rt : Nat → Nat) (fo : Nat → Int32) (M : Nat → Nat → Int32) (sg tu : Nat → Nat → Nat) (od : Nat → Nat) (a0 r1 r2 : Nat) (rw : Nat → Int32) (bg : Int32) (sx ro : Nat) (ln : Int32) (wz : Int64) (G : List Nat) (st sl : Nat → Int32) (L : Nat → Nat → Int32) (S : pz_S) (fa : Nat → Int32) (wy : Nat → Int64) (re : Nat → Int32) (ly dp : Nat) (me cm : Int32) (T : pz_S) (fk : Nat → Int32) (wk : Nat → Int64) (rk : Nat → Int32) (lk dk : Nat) (ck : Int32) (sa gl : Nat) (len i9 : Nat) (cb cc : Bool) : wz_G → Prop := fun w => ∃ (G' : List Nat) (st' sl' : Nat → Int32) (L' : Nat → Nat → Int32) (T' : pz_S) (fk' : Nat → Int32) (wk' : Nat → Int64) (rk' : Nat → Int32), w = [se_W q as9 n (am 0) (ag 0) r1 r2 (ak 0) (pz_fact n) rw bg sx ro ln wz, bl_W q ah (am 0) (ag 0) 0 (pz_fact n) fa wy re S.1.length ly dp me cm, bl_W q ak (am 0) (ag 0) 6 (pz_fact n) fk' wk' rk' T'.1.length lk dk me ck, gq_W q ag (am 0) (pz_fact n) (2 ^ b) (32 - b) rl st' sl' G'.length, wz_rows 12 rl (fun i9 => .inl (q.1, pz_fact n, .inl (L' i9))), mv_W q am n k rt fo, wz_rows 12 rt (fun i9 => .inl (q.1, 8, .inl (M i9)))] ∧ (∃ Nw, G' = G ++ Nw) ∧ gq_ok n a0 b k sg tu G' st' sl' L' ∧ (bl_ok (pz_fact n) G' S fa wy re ∧ bl_ok (pz_fact n) G' T' fk' wk' rk' ∧ (∀ c d, T.2.1 c = some d → T'.2.1 c = some d) ∧ (∃ Nw, T'.1 = T.1 ++ Nw) ∧ (∀ c e, T'.2.1 c = some e → e ≤ len)) ∧ (∀ c e1, T'.2.1 c = some e1 → pz_dist (bl_s n k 6 sg tu od me) gl c e1) ∧ ∀ x f e1, pz_dist (bl_s n k 0 sg tu od me) sa x f → pz_dist (bl_s n k 6 sg tu od me) gl x e1 → f + e1 = len → T'.2.1 x = some e1
set_option maxHeartbeats 4000000 in
set_option maxRecDepth 100000 in
/-- what lies on shortest rows comes into the ball around the goal -/
theorem c_S_leadBackToStart (l : Launch) (D : va_G) (q : wz_Q) (as9 ah ak ag am : Nat → Nat) (n b k : Nat) (rl rt : Nat → Nat) (fo : Nat → Int32) (M : Nat → Nat → Int32) (sg tu : Nat → Nat → Nat) (od : Nat → Nat) (a0 r1 r2 : Nat) (rw : Nat → Int32) (bg : Int32) (sx ro : Nat) (ln : Int32) (wz : Int64) (G : List Nat) (st sl : Nat → Int32) (L : Nat → Nat → Int32) (S : pz_S) (fa : Nat → Int32) (wy : Nat → Int64) (re : Nat → Int32) (ly dp : Nat) (me cm : Int32) (T : pz_S) (fk : Nat → Int32) (wk : Nat → Int64) (rk : Nat → Int32) (lk dk : Nat) (ck : Int32) (sa gl : Nat) (len i9 : Nat) (cb cc : Bool) (hn : n ≤ 8) (hb0 : 0 < b) (hb30 : b ≤ 30) (hM : pz_fact n < 2 ^ b) (hk : k ≤ 6) (hmv : mv_ok n k fo M sg tu od) (hok : gq_ok n a0 b k sg tu G st sl L) (hblS : bl_ok (pz_fact n) G S fa wy re) (hblT : bl_ok (pz_fact n) G T fk wk rk) (hrv : ∀ u v, pz_cnt v (bl_s n k 0 sg tu od me u) = pz_cnt u (bl_s n k 6 sg tu od me v)) (hbS : pz_ball (bl_s n k 0 sg tu od me) sa ly dp cb S) (hdS : dp ≤ ly) (hdist : pz_dist (bl_s n k 0 sg tu od me) sa gl len) (hle : ∀ c e, T.2.1 c = some e → e ≤ len) (hlen : len < 2 ^ 20) (hbT : pz_ball (bl_s n k 6 sg tu od me) gl lk dk cc T) (hln : ln = nI len) (hl9 : len = i9 + dk) (hi9 : i9 ≤ dp) : wz_Mv l y_S_leadBackToStart ws_S_leadBackToStart ({ frames := 4, cells := 0, slots := 0, locals := 99 } : Room) D q ([.ref (as9 0), .ref (ah 0)] : List Value) [se_W q as9 n (am 0) (ag 0) r1 r2 (ak 0) (pz_fact n) rw bg sx ro ln wz, bl_W q ah (am 0) (ag 0) 0 (pz_fact n) fa wy re S.1.length ly dp me cm, bl_W q ak (am 0) (ag 0) 6 (pz_fact n) fk wk rk T.1.length lk dk me ck, gq_W q ag (am 0) (pz_fact n) (2 ^ b) (32 - b) rl st sl G.length, wz_rows 12 rl (fun i9 => .inl (q.1, pz_fact n, .inl (L i9))), mv_W q am n k rt fo, wz_rows 12 rt (fun i9 => .inl (q.1, 8, .inl (M i9)))] (po_S_leadBackToStart q as9 ah ak ag am n b k rl rt fo M sg tu od a0 r1 r2 rw bg sx ro ln wz G st sl L S fa wy re ly dp me cm T fk wk rk lk dk ck sa gl len i9 cb cc) 0 0 := by
  intro sz9
  refine wz_enter (cc := b_S_leadBackToStart) (maxL := 6) (ret := none) (Qc := fun A => (va_Qv (po_S_leadBackToStart q as9 ah ak ag am n b k rl rt fo M sg tu od a0 r1 r2 rw bg sx ro ln wz G st sl L S fa wy re ly dp me cm T fk wk rk lk dk ck sa gl len i9 cb cc) (wz_At D q A) A)) (by decide) (Nat.le_of_ble_eq_true rfl) ?_
  intro p e s m below meth c A ls C hP hD hS hl
  obtain ⟨hx, hb, hr, hml, hlocks, hown, hts, hN, hK, hA, hnm⟩ := C
  have hown : s.vm.findClass "TwoEndSearch$Search" = some m.cls := hown
  have hl : lv_has ls 6 [(0, .ref (as9 0)), (1, .ref (ah 0))] := hl
  have hfl := pz_fact_le hn
  have hSl := bl_len hblS
  have hGl := gq_len hok
  have hlyS := hbS.2.1
  have hlyT := hbT.2.1
  subst hln
  have hltS : ∀ x e1, S.2.1 x = some e1 → e1 < 2 ^ 30 := pz_ball_lt hbS (by omega)
  refine lv_aload_n hx hb d_S_leadBackToStart_0 rfl (lv_at hl 0 rfl) ?_
  refine wz_get (v := .ref (ak 0)) (T := T_S) (N := 12) hx hb hts i_S hown hK hP 0 0 rfl rfl rfl 5 (by decide) (hts _ kw_174) rfl rfl d_S_leadBackToStart_1 ?_
  refine wz_getN (v := .int (nI lk)) (T := T_B) (N := 11) hx hb hts i_B hown hK hP 2 0 rfl rfl rfl 7 (by decide) (hN.1 _ (List.mem_of_getElem? (i := 9) rfl)) rfl rfl d_S_leadBackToStart_4 ?_
  refine lv_istore_n (lv' := [(2, .int (nI lk)), (0, .ref (as9 0)), (1, .ref (ah 0))]) hx hb d_S_leadBackToStart_7 rfl hl (by decide) rfl (fun ls hl => ?_)
  have outer : ∀ (d : Nat) (t : Nat) (G1 : List Nat) (st1 sl1 : Nat → Int32) (L1 : Nat → Nat → Int32) (T1 : pz_S) (fk1 : Nat → Int32) (wk1 : Nat → Int64) (rk1 : Nat → Int32), t ≤ T1.1.length → lk ≤ t → pz_fact n + 1 ≤ t + d → (∃ Nw, G1 = G ++ Nw) → gq_ok n a0 b k sg tu G1 st1 sl1 L1 → bl_ok (pz_fact n) G1 S fa wy re → bl_ok (pz_fact n) G1 T1 fk1 wk1 rk1 → (∀ c d, T.2.1 c = some d → T1.2.1 c = some d) → (∃ Nw, T1.1 = T.1 ++ Nw) → (∀ c e1, T1.2.1 c = some e1 → e1 ≤ len) → pz_ld (bl_s n k 0 sg tu od me) (bl_s n k 6 sg tu od me) sa gl len lk dk S T t T1 → ∀ (H : Heap) (locs : List Loc) (ls : Array Slot), va_P D vwCl ([se_W q as9 n (am 0) (ag 0) r1 r2 (ak 0) (pz_fact n) rw bg sx ro (nI len) wz, bl_W q ah (am 0) (ag 0) 0 (pz_fact n) fa wy re S.1.length ly dp me cm, bl_W q ak (am 0) (ag 0) 6 (pz_fact n) fk1 wk1 rk1 T1.1.length lk dk me ck, gq_W q ag (am 0) (pz_fact n) (2 ^ b) (32 - b) rl st1 sl1 G1.length, wz_rows 12 rl (fun i9 => .inl (q.1, pz_fact n, .inl (L1 i9))), mv_W q am n k rt fo, wz_rows 12 rt (fun i9 => .inl (q.1, 8, .inl (M i9)))] : wz_G).flatten H → va_D A ([se_W q as9 n (am 0) (ag 0) r1 r2 (ak 0) (pz_fact n) rw bg sx ro (nI len) wz, bl_W q ah (am 0) (ag 0) 0 (pz_fact n) fa wy re S.1.length ly dp me cm, bl_W q ak (am 0) (ag 0) 6 (pz_fact n) fk1 wk1 rk1 T1.1.length lk dk me ck, gq_W q ag (am 0) (pz_fact n) (2 ^ b) (32 - b) rl st1 sl1 G1.length, wz_rows 12 rl (fun i9 => .inl (q.1, pz_fact n, .inl (L1 i9))), mv_W q am n k rt fo, wz_rows 12 rt (fun i9 => .inl (q.1, 8, .inl (M i9)))] : wz_G).flatten → va_S A s.heap H locs → lv_has ls 6 [(0, .ref (as9 0)), (1, .ref (ah 0)), (2, .int (nI t))] → W p l e ({ frames := 4, cells := 0, slots := 0, locals := 99 } : Room) s m ([.ref (as9 0), .ref (ah 0)] : List Value).toArray below meth c H locs 0 0 (MQ below (va_Qv (po_S_leadBackToStart q as9 ah ak ag am n b k rl rt fo M sg tu od a0 r1 r2 rw bg sx ro (nI len) wz G st sl L S fa wy re ly dp me cm T fk wk rk lk dk ck sa gl len i9 cb cc) (wz_At D q A) A) ([.ref (as9 0), .ref (ah 0)] : List Value).toArray s 0 0 A) (F0 m 8 ls []) := by
    intro d
    induction d with
    | zero =>
      intro t G1 st1 sl1 L1 T1 fk1 wk1 rk1 ht htl hd hp1 hok1 hS1 hT1 hkeep1 hpre1 hle1 hld1
      exfalso; have := bl_len hT1; have := gq_len hok1; omega
    | succ d ih =>
      intro t G1 st1 sl1 L1 T1 fk1 wk1 rk1 ht htl hd hp1 hok1 hS1 hT1 hkeep1 hpre1 hle1 hld1 H locs ls hP hD hS hl
      have hT1l := bl_len hT1
      have hG1l := gq_len hok1
      refine lv_iload_n hx hb d_S_leadBackToStart_8 rfl (lv_at hl 2 rfl) ?_
      refine lv_aload_n hx hb d_S_leadBackToStart_9 rfl (lv_at hl 0 rfl) ?_
      refine wz_get (v := .ref (ak 0)) (T := T_S) (N := 12) hx hb hts i_S hown hK hP 0 0 rfl rfl rfl 5 (by decide) (hts _ kw_174) rfl rfl d_S_leadBackToStart_10 ?_
      refine wz_getN (v := .int (nI T1.1.length)) (T := T_B) (N := 11) hx hb hts i_B hown hK hP 2 0 rfl rfl rfl 6 (by decide) (hN.1 _ (List.mem_of_getElem? (i := 8) rfl)) rfl rfl d_S_leadBackToStart_13 ?_
      refine wz_ge (tgt := 105) hx hb d_S_leadBackToStart_16 (by decide) (by omega) (by omega) (fun hc => ?_) (fun hc => ?_)
      · skip
        have hte : t = T1.1.length := by omega
        subst hte
        exact wz_vret hx hb hr hlocks hK hP hD hS d_S_leadBackToStart_105 ⟨G1, st1, sl1, L1, T1, fk1, wk1, rk1, rfl, hp1, hok1, ⟨hS1, hT1, hkeep1, hpre1, hle1⟩, hld1.2.2.2.1, fun x f e1 q1 q2 q3 => pz_ld_all hrv hbS hbT hdist hl9 hi9 hld1 e1 x f q1 q2 q3⟩
      · skip
        refine lv_iload_n hx hb d_S_leadBackToStart_19 rfl (lv_at hl 2 rfl) ?_
        refine lv_aload_n hx hb d_S_leadBackToStart_20 rfl (lv_at hl 0 rfl) ?_
        refine wz_get (v := .ref (as9 1)) (T := T_S) (N := 12) hx hb hts i_S hown hK hP 0 0 rfl rfl rfl 6 (by decide) (hts _ kw_175) rfl rfl d_S_leadBackToStart_21 ?_
        refine wz_alen hx hb hK hP 0 1 (n := pz_fact n) rfl rfl d_S_leadBackToStart_24 ?_
        refine wz_ge (tgt := 105) hx hb d_S_leadBackToStart_25 (by decide) (by omega) (by omega) (fun hc2 => ?_) (fun hc2 => ?_)
        · skip
          exfalso; omega
        · skip
          obtain ⟨x, hgx⟩ : ∃ x, T1.1[t]? = some x := ⟨_, List.getElem?_eq_getElem hc⟩
          obtain ⟨ix, eix, hix⟩ := hT1.2.2.2 t x hgx
          have hixl := (List.getElem?_eq_some_iff.mp hix).1
          obtain ⟨e1, he⟩ := pz_mem_far hld1.1 (List.mem_of_getElem? hgx)
          have hel := hle1 x e1 he
          refine lv_aload_n hx hb d_S_leadBackToStart_28 rfl (lv_at hl 0 rfl) ?_
          refine wz_get (v := .ref (ak 0)) (T := T_S) (N := 12) hx hb hts i_S hown hK hP 0 0 rfl rfl rfl 5 (by decide) (hts _ kw_174) rfl rfl d_S_leadBackToStart_29 ?_
          refine wz_getN (v := .ref (ak 3)) (T := T_B) (N := 11) hx hb hts i_B hown hK hP 2 0 rfl rfl rfl 5 (by decide) (hN.1 _ (List.mem_of_getElem? (i := 7) rfl)) rfl rfl d_S_leadBackToStart_32 ?_
          refine lv_iload_n hx hb d_S_leadBackToStart_35 rfl (lv_at hl 2 rfl) ?_
          refine wz_iald hx hb hK hP 2 3 (j := t) rfl rfl (by omega) (by omega) d_S_leadBackToStart_36 ?_
          refine wz_topi (y := nI ix) eix ?_
          refine lv_istore_n (lv' := [(3, .int (nI ix)), (0, .ref (as9 0)), (1, .ref (ah 0)), (2, .int (nI t))]) hx hb d_S_leadBackToStart_37 rfl hl (by decide) rfl (fun ls hl => ?_)
          refine lv_aload_n hx hb d_S_leadBackToStart_38 rfl (lv_at hl 1 rfl) ?_
          refine wz_get (v := .int (nI len)) (T := T_S) (N := 12) hx hb hts i_S hown hK hP 0 0 rfl rfl rfl 10 (by decide) (hts _ kw_181) rfl rfl d_S_leadBackToStart_39 ?_
          refine lv_aload_n hx hb d_S_leadBackToStart_42 rfl (lv_at hl 1 rfl) ?_
          refine wz_get (v := .ref (ak 0)) (T := T_S) (N := 12) hx hb hts i_S hown hK hP 0 0 rfl rfl rfl 5 (by decide) (hts _ kw_174) rfl rfl d_S_leadBackToStart_43 ?_
          refine wz_getN (v := .ref (ak 1)) (T := T_B) (N := 11) hx hb hts i_B hown hK hP 2 0 rfl rfl rfl 3 (by decide) (hN.1 _ (List.mem_of_getElem? (i := 5) rfl)) rfl rfl d_S_leadBackToStart_46 ?_
          refine lv_iload_n hx hb d_S_leadBackToStart_49 rfl (lv_at hl 0 rfl) ?_
          refine wz_iald hx hb hK hP 2 1 (j := ix) rfl rfl (by omega) (by omega) d_S_leadBackToStart_50 ?_
          refine wz_topi (y := nI e1) ((hT1.2.1 ix x hix).1.trans (by rw [he]; rfl)) ?_
          refine lv_isub hx hb d_S_leadBackToStart_51 ?_
          refine wz_topi (y := nI (len - e1)) (pk_sub hel) ?_
          refine lv_istore (lv' := [(4, .int (nI (len - e1))), (3, .int (nI ix)), (0, .ref (as9 0)), (1, .ref (ah 0)), (2, .int (nI t))]) hx hb d_S_leadBackToStart_52 hl (by decide) rfl (fun ls hl => ?_)
          refine lv_iload hx hb d_S_leadBackToStart_54 (lv_at hl 0 rfl) ?_
          refine lv_if_le (tgt := 99) hx hb d_S_leadBackToStart_56 (by decide) (fun hc3 => ?_) (fun hc3 => ?_)
          · skip
            have hld1' : pz_ld (bl_s n k 0 sg tu od me) (bl_s n k 6 sg tu od me) sa gl len lk dk S T (t + 1) T1 := by
              refine ⟨hld1.1, hld1.2.1, hld1.2.2.1, hld1.2.2.2.1, hld1.2.2.2.2.1, fun i z d f y h1 h2 h3 h4 h5 h6 h7 h8 => ?_⟩
              by_cases e0 : i = t
              · subst e0
                have : z = x := Option.some.inj (h3.symm.trans hgx)
                subst this
                have : d = e1 := Option.some.inj (h4.symm.trans he)
                subst this
                exfalso
                exact absurd hc3 (nI_nle (by omega) (by omega))
              · exact hld1.2.2.2.2.2 i z d f y h1 (by omega) h3 h4 h5 h6 h7 h8
            refine lv_iinc (v := nI (t + 1)) (lv' := [(2, .int (nI (t + 1))), (4, .int (nI (len - e1))), (3, .int (nI ix)), (0, .ref (as9 0)), (1, .ref (ah 0))]) hx hb d_S_leadBackToStart_99 hl (k := 4) rfl (nI_1 t) (by decide) rfl (fun ls hl => ?_)
            refine lv_goto (tgt := 8) hx hb d_S_leadBackToStart_102 (by decide) ?_
            exact ih (t + 1) G1 st1 sl1 L1 T1 fk1 wk1 rk1 (by omega) (by omega) (by omega) hp1 hok1 hS1 hT1 hkeep1 hpre1 hle1 hld1' _ _ _ hP hD hS (lv_sub hl [3, 4, 0] rfl)
          · skip
            refine lv_aload_n hx hb d_S_leadBackToStart_59 rfl (lv_at hl 3 rfl) ?_
            refine wz_getN (v := .ref (ah 1)) (T := T_B) (N := 11) hx hb hts i_B hown hK hP 1 0 rfl rfl rfl 3 (by decide) (hN.1 _ (List.mem_of_getElem? (i := 5) rfl)) rfl rfl d_S_leadBackToStart_60 ?_
            refine lv_iload_n hx hb d_S_leadBackToStart_63 rfl (lv_at hl 1 rfl) ?_
            refine wz_iald hx hb hK hP 1 1 (j := ix) rfl rfl (by omega) (by omega) d_S_leadBackToStart_64 ?_
            refine wz_topi (y := (bl_fo (S.2.1 x))) (hS1.2.1 ix x hix).1 ?_
            refine lv_iload hx hb d_S_leadBackToStart_65 (lv_at hl 0 rfl) ?_
            refine lv_icmp_ne (tgt := 99) hx hb d_S_leadBackToStart_67 (by decide) (fun hc4 => ?_) (fun hc4 => ?_)
            · skip
              have hld1' : pz_ld (bl_s n k 0 sg tu od me) (bl_s n k 6 sg tu od me) sa gl len lk dk S T (t + 1) T1 := by
                refine ⟨hld1.1, hld1.2.1, hld1.2.2.1, hld1.2.2.2.1, hld1.2.2.2.2.1, fun i z d f y h1 h2 h3 h4 h5 h6 h7 h8 => ?_⟩
                by_cases e0 : i = t
                · subst e0
                  have : z = x := Option.some.inj (h3.symm.trans hgx)
                  subst this
                  have : d = e1 := Option.some.inj (h4.symm.trans he)
                  subst this
                  exfalso
                  exact hc4 (by rw [h5]; show nI (f + 1) = _; congr 1; omega)
                · exact hld1.2.2.2.2.2 i z d f y h1 (by omega) h3 h4 h5 h6 h7 h8
              refine lv_iinc (v := nI (t + 1)) (lv' := [(2, .int (nI (t + 1))), (4, .int (nI (len - e1))), (3, .int (nI ix)), (0, .ref (as9 0)), (1, .ref (ah 0))]) hx hb d_S_leadBackToStart_99 hl (k := 4) rfl (nI_1 t) (by decide) rfl (fun ls hl => ?_)
              refine lv_goto (tgt := 8) hx hb d_S_leadBackToStart_102 (by decide) ?_
              exact ih (t + 1) G1 st1 sl1 L1 T1 fk1 wk1 rk1 (by omega) (by omega) (by omega) hp1 hok1 hS1 hT1 hkeep1 hpre1 hle1 hld1' _ _ _ hP hD hS (lv_sub hl [3, 4, 0] rfl)
            · skip
              have hle0 : 0 < len - e1 := by
                by_cases q : len - e1 = 0
                · rw [q] at hc3; exact absurd (by decide) hc3
                · omega
              have hSx0 := (bl_fo_s (fun e9 he9 => hltS x e9 he9) (by omega)).mp hc4
              obtain ⟨f9, hf9⟩ : ∃ f9, len - e1 = f9 + 1 := ⟨len - e1 - 1, by omega⟩
              have hSx : S.2.1 x = some (f9 + 1) := by rw [hSx0, hf9]
              have hdk9 : dk ≤ e1 := by
                cases hq : T.2.1 x with
                | none => exact Nat.le_of_lt (hld1.2.2.2.2.1 x e1 he hq)
                | some e2 =>
                  have h2 := Option.some.inj ((hkeep1 x e2 hq).symm.trans he)
                  subst h2
                  obtain ⟨Np, hNp⟩ := hpre1
                  obtain ⟨i2, hi2⟩ := List.getElem?_of_mem (pz_far_mem hbT.1.1 hq)
                  have hi2l := (List.getElem?_eq_some_iff.mp hi2).1
                  have hi2' : T1.1[i2]? = some x := by rw [hNp, List.getElem?_append_left hi2l]; exact hi2
                  have := pz_getinj hld1.1.1 hi2' hgx
                  subst this
                  exact Nat.le_of_eq (hbT.2.2.2 i2 x e2 htl hi2 hq).symm
              refine lv_iconst (v := nI 0) hx hb d_S_leadBackToStart_70 (by decide) ?_
              refine lv_istore (lv' := [(5, .int (nI 0)), (4, .int (nI (len - e1))), (3, .int (nI ix)), (0, .ref (as9 0)), (1, .ref (ah 0)), (2, .int (nI t))]) hx hb d_S_leadBackToStart_71 hl (by decide) rfl (fun ls hl => ?_)
              have inner : ∀ (d2 : Nat) (o : Nat) (G2 : List Nat) (st2 sl2 : Nat → Int32) (L2 : Nat → Nat → Int32) (T2 : pz_S) (fk2 : Nat → Int32) (wk2 : Nat → Int64) (rk2 : Nat → Int32), o ≤ k → k + 1 ≤ o + d2 → T2.2.1 x = some e1 → T2.1[t]? = some x → G2[ix]? = some x → (∃ Nw, G2 = G ++ Nw) → gq_ok n a0 b k sg tu G2 st2 sl2 L2 → bl_ok (pz_fact n) G2 S fa wy re → bl_ok (pz_fact n) G2 T2 fk2 wk2 rk2 → (∀ c d, T.2.1 c = some d → T2.2.1 c = some d) → (∃ Nw, T2.1 = T.1 ++ Nw) → (∀ c e1, T2.2.1 c = some e1 → e1 ≤ len) → pz_ld (bl_s n k 0 sg tu od me) (bl_s n k 6 sg tu od me) sa gl len lk dk S T t T2 → (∀ y, y ∈ pz_st (bl_g n 6 sg tu) (bl_mt me od) o x → S.2.1 y = some f9 → T2.2.1 y ≠ none) → ∀ (H : Heap) (locs : List Loc) (ls : Array Slot), va_P D vwCl ([se_W q as9 n (am 0) (ag 0) r1 r2 (ak 0) (pz_fact n) rw bg sx ro (nI len) wz, bl_W q ah (am 0) (ag 0) 0 (pz_fact n) fa wy re S.1.length ly dp me cm, bl_W q ak (am 0) (ag 0) 6 (pz_fact n) fk2 wk2 rk2 T2.1.length lk dk me ck, gq_W q ag (am 0) (pz_fact n) (2 ^ b) (32 - b) rl st2 sl2 G2.length, wz_rows 12 rl (fun i9 => .inl (q.1, pz_fact n, .inl (L2 i9))), mv_W q am n k rt fo, wz_rows 12 rt (fun i9 => .inl (q.1, 8, .inl (M i9)))] : wz_G).flatten H → va_D A ([se_W q as9 n (am 0) (ag 0) r1 r2 (ak 0) (pz_fact n) rw bg sx ro (nI len) wz, bl_W q ah (am 0) (ag 0) 0 (pz_fact n) fa wy re S.1.length ly dp me cm, bl_W q ak (am 0) (ag 0) 6 (pz_fact n) fk2 wk2 rk2 T2.1.length lk dk me ck, gq_W q ag (am 0) (pz_fact n) (2 ^ b) (32 - b) rl st2 sl2 G2.length, wz_rows 12 rl (fun i9 => .inl (q.1, pz_fact n, .inl (L2 i9))), mv_W q am n k rt fo, wz_rows 12 rt (fun i9 => .inl (q.1, 8, .inl (M i9)))] : wz_G).flatten → va_S A s.heap H locs → lv_has ls 6 [(0, .ref (as9 0)), (1, .ref (ah 0)), (2, .int (nI t)), (3, .int (nI ix)), (4, .int (nI (len - e1))), (5, .int (nI o))] → W p l e ({ frames := 4, cells := 0, slots := 0, locals := 99 } : Room) s m ([.ref (as9 0), .ref (ah 0)] : List Value).toArray below meth c H locs 0 0 (MQ below (va_Qv (po_S_leadBackToStart q as9 ah ak ag am n b k rl rt fo M sg tu od a0 r1 r2 rw bg sx ro (nI len) wz G st sl L S fa wy re ly dp me cm T fk wk rk lk dk ck sa gl len i9 cb cc) (wz_At D q A) A) ([.ref (as9 0), .ref (ah 0)] : List Value).toArray s 0 0 A) (F0 m 73 ls []) := by
                intro d2
                induction d2 with
                | zero =>
                  intro o G2 st2 sl2 L2 T2 fk2 wk2 rk2 ho hd2 hTx hgx2 hix2 hp2 hok2 hS2 hT2 hkeep2 hpre2 hle2 hld2 hall
                  omega
                | succ d2 ih2 =>
                  intro o G2 st2 sl2 L2 T2 fk2 wk2 rk2 ho hd2 hTx hgx2 hix2 hp2 hok2 hS2 hT2 hkeep2 hpre2 hle2 hld2 hall H locs ls hP hD hS hl
                  refine lv_iload hx hb d_S_leadBackToStart_73 (lv_at hl 5 rfl) ?_
                  refine lv_aload_n hx hb d_S_leadBackToStart_75 rfl (lv_at hl 0 rfl) ?_
                  refine wz_get (v := .ref (am 0)) (T := T_S) (N := 12) hx hb hts i_S hown hK hP 0 0 rfl rfl rfl 1 (by decide) (hts _ kw_170) rfl rfl d_S_leadBackToStart_76 ?_
                  refine wz_getN (v := .int (nI k)) (T := T_M) (N := 4) hx hb hts i_M hown hK hP 5 0 rfl rfl rfl 3 (by decide) (hN.1 _ (List.mem_of_getElem? (i := 2) rfl)) rfl rfl d_S_leadBackToStart_79 ?_
                  refine wz_ge (tgt := 99) hx hb d_S_leadBackToStart_82 (by decide) (by omega) (by omega) (fun hc5 => ?_) (fun hc5 => ?_)
                  · skip
                    have hoe : o = k := by omega
                    subst hoe
                    have hld2' : pz_ld (bl_s n o 0 sg tu od me) (bl_s n o 6 sg tu od me) sa gl len lk dk S T (t + 1) T2 := by
                      refine ⟨hld2.1, hld2.2.1, hld2.2.2.1, hld2.2.2.2.1, hld2.2.2.2.2.1, fun i z d f y h1 h2 h3 h4 h5 h6 h7 h8 => ?_⟩
                      by_cases e0 : i = t
                      · subst e0
                        have : z = x := Option.some.inj (h3.symm.trans hgx2)
                        subst this
                        have h9 := Option.some.inj (h5.symm.trans hSx)
                        exact hall y h7 (by rw [h8]; congr 1; omega)
                      · exact hld2.2.2.2.2.2 i z d f y h1 (by omega) h3 h4 h5 h6 h7 h8
                    have ht2 := (List.getElem?_eq_some_iff.mp hgx2).1
                    refine lv_iinc (v := nI (t + 1)) (lv' := [(2, .int (nI (t + 1))), (0, .ref (as9 0)), (1, .ref (ah 0)), (3, .int (nI ix)), (4, .int (nI (len - e1))), (5, .int (nI o))]) hx hb d_S_leadBackToStart_99 hl (k := 2) rfl (nI_1 t) (by decide) rfl (fun ls hl => ?_)
                    refine lv_goto (tgt := 8) hx hb d_S_leadBackToStart_102 (by decide) ?_
                    exact ih (t + 1) G2 st2 sl2 L2 T2 fk2 wk2 rk2 (by omega) (by omega) (by omega) hp2 hok2 hS2 hT2 hkeep2 hpre2 hle2 hld2' _ _ _ hP hD hS (lv_sub hl [1, 2, 0] rfl)
                  · skip
                    have ht2 := (List.getElem?_eq_some_iff.mp hgx2).1
                    have hix2l := (List.getElem?_eq_some_iff.mp hix2).1
                    refine lv_aload_n hx hb d_S_leadBackToStart_85 rfl (lv_at hl 0 rfl) ?_
                    refine lv_iload_n hx hb d_S_leadBackToStart_86 rfl (lv_at hl 3 rfl) ?_
                    refine lv_iload hx hb d_S_leadBackToStart_87 (lv_at hl 5 rfl) ?_
                    refine lv_aload_n hx hb d_S_leadBackToStart_89 rfl (lv_at hl 1 rfl) ?_
                    have hQ := wz_split (n := 7) (gc := [se_W q as9 n (am 0) (ag 0) r1 r2 (ak 0) (pz_fact n) rw bg sx ro (nI len) wz, bl_W q ah (am 0) (ag 0) 0 (pz_fact n) fa wy re S.1.length ly dp me cm, bl_W q ak (am 0) (ag 0) 6 (pz_fact n) fk2 wk2 rk2 T2.1.length lk dk me ck, gq_W q ag (am 0) (pz_fact n) (2 ^ b) (32 - b) rl st2 sl2 G2.length, wz_rows 12 rl (fun i9 => .inl (q.1, pz_fact n, .inl (L2 i9))), mv_W q am n k rt fo, wz_rows 12 rt (fun i9 => .inl (q.1, 8, .inl (M i9)))]) (gr := []) [0, 1, 2, 3, 4, 5, 6] [] rfl (by decide) rfl rfl hP hD
                    refine wz_callv (va_runV (As := [.int (nI ix), .int (nI o), .ref (ah 0)]) (rest := []) ⟨hx, hb, hml, hown, hts⟩ (c_S_leadBackFrom l D q as9 ah ak ag am n b k rl rt fo M sg tu od a0 r1 r2 rw bg sx ro (nI len) wz G2 st2 sl2 L2 S fa wy re ly dp me cm T2 fk2 wk2 rk2 lk dk ck sa gl len e1 f9 x ix o t cb T hn hb0 hb30 hM hk hmv hok2 hS2 hT2 hrv hbS hdS hdist hle2 hlen hld2 (by omega) hc5 hix2 hTx hSx (by omega) hdk9 _) (cwV 3 hts (wz_goodV kw_377 kw_379 kw_11 kw_33 kw_380) rfl rfl rfl (by decide +kernel) ⟨Nat.le_of_ble_eq_true rfl, Nat.le_of_ble_eq_true rfl⟩) (wz_preV (gi := 0) (k := 0) hN hK hQ wz_L_ok rfl rfl rfl) rfl rfl hl.1 rfl (lv_room (Nat.le_of_ble_eq_true rfl)) d_S_leadBackToStart_90 ⟨Nat.le_of_ble_eq_true rfl, Nat.le_of_ble_eq_true rfl⟩) hQ hS hA (fun gx H locs hp hP hD hS => ?_)
                    obtain ⟨G3, st3, sl3, L3, T3, fk3, wk3, rk3, rfl, ⟨Nb, hNb⟩, hok3, ⟨hS3, hT3, hkeep3, ⟨Nq, hNq⟩, hle3⟩, hld3, hall3⟩ := hp
                    obtain ⟨Na, hNa⟩ := hp2
                    obtain ⟨Np, hNp⟩ := hpre2
                    obtain ⟨hP, hD⟩ := wz_ord (n := 7) (gs' := [se_W q as9 n (am 0) (ag 0) r1 r2 (ak 0) (pz_fact n) rw bg sx ro (nI len) wz, bl_W q ah (am 0) (ag 0) 0 (pz_fact n) fa wy re S.1.length ly dp me cm, bl_W q ak (am 0) (ag 0) 6 (pz_fact n) fk3 wk3 rk3 T3.1.length lk dk me ck, gq_W q ag (am 0) (pz_fact n) (2 ^ b) (32 - b) rl st3 sl3 G3.length, wz_rows 12 rl (fun i9 => .inl (q.1, pz_fact n, .inl (L3 i9))), mv_W q am n k rt fo, wz_rows 12 rt (fun i9 => .inl (q.1, 8, .inl (M i9)))]) [0, 1, 2, 3, 4, 5, 6] rfl (by decide) rfl hP hD
                    refine lv_iinc (v := nI (o + 1)) (lv' := [(5, .int (nI (o + 1))), (0, .ref (as9 0)), (1, .ref (ah 0)), (2, .int (nI t)), (3, .int (nI ix)), (4, .int (nI (len - e1)))]) hx hb d_S_leadBackToStart_93 hl (k := 5) rfl (nI_1 o) (by decide) rfl (fun ls hl => ?_)
                    refine lv_goto (tgt := 73) hx hb d_S_leadBackToStart_96 (by decide) ?_
                    exact ih2 (o + 1) G3 st3 sl3 L3 T3 fk3 wk3 rk3 (by omega) (by omega) (hkeep3 x e1 hTx) (by rw [hNq, List.getElem?_append_left ht2]; exact hgx2) (by rw [hNb, List.getElem?_append_left hix2l]; exact hix2) ⟨Na ++ Nb, by rw [hNb, hNa, List.append_assoc]⟩ hok3 hS3 hT3 (fun c d h9 => hkeep3 c d (hkeep2 c d h9)) ⟨Np ++ Nq, by rw [hNq, hNp, List.append_assoc]⟩ hle3 hld3 (fun y hy hSy => by
                      rcases List.mem_append.mp hy with q | q
                      · obtain ⟨e2, he2⟩ := pz_mem_far hld2.1 ((hld2.1.2 y).mpr (hall y q hSy))
                        exact pz_sn (hkeep3 y e2 he2)
                      · exact hall3 y q hSy) _ _ _ hP hD hS (lv_sub hl [1, 2, 3, 4, 5, 0] rfl)
              exact inner (k + 1) 0 G1 st1 sl1 L1 T1 fk1 wk1 rk1 (by omega) (by omega) he hgx hix hp1 hok1 hS1 hT1 hkeep1 hpre1 hle1 hld1 (fun y hy => absurd hy List.not_mem_nil) _ _ _ hP hD hS (lv_sub hl [3, 4, 5, 2, 1, 0] rfl)
  exact outer (pz_fact n + 1) lk G st sl L T fk wk rk (by omega) (Nat.le_refl _) (by omega) ⟨[], by simp⟩ hok hblS hblT (fun _ _ h9 => h9) ⟨[], by simp⟩ hle (pz_ld_0 hbT) _ _ _ hP hD hS (lv_sub hl [1, 2, 0] rfl)
