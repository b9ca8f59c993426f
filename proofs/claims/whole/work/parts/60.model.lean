/-! MODULE Model: the reference -/
def zo_W (q : wz_Q) (a : Nat → Nat) (th : Int32) (n : Nat) (k : Nat) (kn : Int32) (bk : Int32) (sz : Nat) (fd : Int32) (ln : Nat) (fm : Int32) (fw : Int64) : va_W := [(a 0, .inr (5, [.int th, .int (nI n), .int (nI k), .ref (a 1), .ref (a 2), .ref (a 3), .ref (a 4), .int kn, .int bk, .int (nI sz), .ref (a 5), .ref (a 6), .ref (a 7), .ref (a 8), .int fd, .int (nI ln), .int fm, .long fw, .ref (a 9), .ref (a 10), .ref (a 11), .ref (a 12)]))]
def zt_W (q : wz_Q) (a : Nat → Nat) (to : Nat → Int32) (fo : Nat → Int32) : va_W := [(a 1, .inl (q.1, 48, .inl to)), (a 2, .inl (q.1, 6, .inl fo))]
def zs_W (q : wz_Q) (a : Nat → Nat) (sb : Nat → Int32) (gb : Nat → Int32) : va_W := [(a 3, .inl (q.1, 8, .inl sb)), (a 4, .inl (q.1, 8, .inl gb))]
def zb_W (q : wz_Q) (a : Nat → Nat) (st : Nat → Int32) (sp : Nat → Int32) (wy : Nat → Int64) (se : Nat → Int32) : va_W := [(a 5, .inl (q.1, 40320, .inl st)), (a 6, .inl (q.1, 40320, .inl sp)), (a 7, .inl (q.2.1, 40320, .inr (.inl wy))), (a 8, .inl (q.1, 65536, .inl se))]
def zf_W (q : wz_Q) (a : Nat → Nat) (ms : Nat → Int32) (ts : Nat → Int32) : va_W := [(a 9, .inl (q.1, 40320, .inl ms)), (a 10, .inl (q.1, 40320, .inl ts))]
theorem d_Z_change_0 : decode b_Z_change 0 = .ok (.aload_n 0, 1) := by decide +kernel
theorem d_Z_change_1 : decode b_Z_change 1 = .ok (.iconst (-1), 1) := by decide +kernel
theorem d_Z_change_2 : decode b_Z_change 2 = .ok (.putfield 22, 3) := by decide +kernel
theorem d_Z_change_5 : decode b_Z_change 5 = .ok (.aload_n 0, 1) := by decide +kernel
theorem d_Z_change_6 : decode b_Z_change 6 = .ok (.iconst 0, 1) := by decide +kernel
theorem d_Z_change_7 : decode b_Z_change 7 = .ok (.putfield 68, 3) := by decide +kernel
theorem d_Z_change_10 : decode b_Z_change 10 = .ok (.return_, 1) := by decide +kernel
theorem d_Z_isMove_0 : decode b_Z_isMove 0 = .ok (.iload_n 1, 1) := by decide +kernel
theorem d_Z_isMove_1 : decode b_Z_isMove 1 = .ok (.ifCond .lt 15, 3) := by decide +kernel
theorem d_Z_isMove_4 : decode b_Z_isMove 4 = .ok (.iload_n 1, 1) := by decide +kernel
theorem d_Z_isMove_5 : decode b_Z_isMove 5 = .ok (.aload_n 0, 1) := by decide +kernel
theorem d_Z_isMove_6 : decode b_Z_isMove 6 = .ok (.getfield 62, 3) := by decide +kernel
theorem d_Z_isMove_9 : decode b_Z_isMove 9 = .ok (.if_icmp .ge 7, 3) := by decide +kernel
theorem d_Z_isMove_12 : decode b_Z_isMove 12 = .ok (.iconst 1, 1) := by decide +kernel
theorem d_Z_isMove_13 : decode b_Z_isMove 13 = .ok (.goto 4, 3) := by decide +kernel
theorem d_Z_isMove_16 : decode b_Z_isMove 16 = .ok (.iconst 0, 1) := by decide +kernel
theorem d_Z_isMove_17 : decode b_Z_isMove 17 = .ok (.ireturn, 1) := by decide +kernel
theorem d_Z_isPlace_0 : decode b_Z_isPlace 0 = .ok (.iload_n 1, 1) := by decide +kernel
theorem d_Z_isPlace_1 : decode b_Z_isPlace 1 = .ok (.ifCond .lt 15, 3) := by decide +kernel
theorem d_Z_isPlace_4 : decode b_Z_isPlace 4 = .ok (.iload_n 1, 1) := by decide +kernel
theorem d_Z_isPlace_5 : decode b_Z_isPlace 5 = .ok (.aload_n 0, 1) := by decide +kernel
theorem d_Z_isPlace_6 : decode b_Z_isPlace 6 = .ok (.getfield 53, 3) := by decide +kernel
theorem d_Z_isPlace_9 : decode b_Z_isPlace 9 = .ok (.if_icmp .ge 7, 3) := by decide +kernel
theorem d_Z_isPlace_12 : decode b_Z_isPlace 12 = .ok (.iconst 1, 1) := by decide +kernel
theorem d_Z_isPlace_13 : decode b_Z_isPlace 13 = .ok (.goto 4, 3) := by decide +kernel
theorem d_Z_isPlace_16 : decode b_Z_isPlace 16 = .ok (.iconst 0, 1) := by decide +kernel
theorem d_Z_isPlace_17 : decode b_Z_isPlace 17 = .ok (.ireturn, 1) := by decide +kernel
theorem d_Z_isMeasure_0 : decode b_Z_isMeasure 0 = .ok (.iload_n 0, 1) := by decide +kernel
theorem d_Z_isMeasure_1 : decode b_Z_isMeasure 1 = .ok (.ifCond .eq 8, 3) := by decide +kernel
theorem d_Z_isMeasure_4 : decode b_Z_isMeasure 4 = .ok (.iload_n 0, 1) := by decide +kernel
theorem d_Z_isMeasure_5 : decode b_Z_isMeasure 5 = .ok (.iconst 1, 1) := by decide +kernel
theorem d_Z_isMeasure_6 : decode b_Z_isMeasure 6 = .ok (.if_icmp .ne 7, 3) := by decide +kernel
theorem d_Z_isMeasure_9 : decode b_Z_isMeasure 9 = .ok (.iconst 1, 1) := by decide +kernel
theorem d_Z_isMeasure_10 : decode b_Z_isMeasure 10 = .ok (.goto 4, 3) := by decide +kernel
theorem d_Z_isMeasure_13 : decode b_Z_isMeasure 13 = .ok (.iconst 0, 1) := by decide +kernel
theorem d_Z_isMeasure_14 : decode b_Z_isMeasure 14 = .ok (.ireturn, 1) := by decide +kernel
theorem d_Z_most_0 : decode b_Z_most 0 = .ok (.iload_n 2, 1) := by decide +kernel
theorem d_Z_most_1 : decode b_Z_most 1 = .ok (.ifCond .ne 7, 3) := by decide +kernel
theorem d_Z_most_4 : decode b_Z_most 4 = .ok (.iconst 1, 1) := by decide +kernel
theorem d_Z_most_5 : decode b_Z_most 5 = .ok (.goto 11, 3) := by decide +kernel
theorem d_Z_most_8 : decode b_Z_most 8 = .ok (.aload_n 0, 1) := by decide +kernel
theorem d_Z_most_9 : decode b_Z_most 9 = .ok (.getfield 13, 3) := by decide +kernel
theorem d_Z_most_12 : decode b_Z_most 12 = .ok (.iload_n 1, 1) := by decide +kernel
theorem d_Z_most_13 : decode b_Z_most 13 = .ok (.iaload, 1) := by decide +kernel
theorem d_Z_most_14 : decode b_Z_most 14 = .ok (.iconst 1, 1) := by decide +kernel
theorem d_Z_most_15 : decode b_Z_most 15 = .ok (.isub, 1) := by decide +kernel
theorem d_Z_most_16 : decode b_Z_most 16 = .ok (.ireturn, 1) := by decide +kernel
theorem d_Z_order_0 : decode b_Z_order 0 = .ok (.aload_n 0, 1) := by decide +kernel
theorem d_Z_order_1 : decode b_Z_order 1 = .ok (.iconst 0, 1) := by decide +kernel
theorem d_Z_order_2 : decode b_Z_order 2 = .ok (.putfield 59, 3) := by decide +kernel
theorem d_Z_order_5 : decode b_Z_order 5 = .ok (.aload_n 0, 1) := by decide +kernel
theorem d_Z_order_6 : decode b_Z_order 6 = .ok (.iload_n 1, 1) := by decide +kernel
theorem d_Z_order_7 : decode b_Z_order 7 = .ok (.invokevirtual 72, 3) := by decide +kernel
theorem d_Z_order_10 : decode b_Z_order 10 = .ok (.ifCond .eq 12, 3) := by decide +kernel
theorem d_Z_order_13 : decode b_Z_order 13 = .ok (.aload_n 0, 1) := by decide +kernel
theorem d_Z_order_14 : decode b_Z_order 14 = .ok (.getfield 13, 3) := by decide +kernel
theorem d_Z_order_17 : decode b_Z_order 17 = .ok (.iload_n 1, 1) := by decide +kernel
theorem d_Z_order_18 : decode b_Z_order 18 = .ok (.iaload, 1) := by decide +kernel
theorem d_Z_order_19 : decode b_Z_order 19 = .ok (.goto 4, 3) := by decide +kernel
theorem d_Z_order_22 : decode b_Z_order 22 = .ok (.iconst 0, 1) := by decide +kernel
theorem d_Z_order_23 : decode b_Z_order 23 = .ok (.ireturn, 1) := by decide +kernel
theorem d_Z_codeOfStart_0 : decode b_Z_codeOfStart 0 = .ok (.iconst 0, 1) := by decide +kernel
theorem d_Z_codeOfStart_1 : decode b_Z_codeOfStart 1 = .ok (.istore_n 1, 1) := by decide +kernel
theorem d_Z_codeOfStart_2 : decode b_Z_codeOfStart 2 = .ok (.iconst 0, 1) := by decide +kernel
theorem d_Z_codeOfStart_3 : decode b_Z_codeOfStart 3 = .ok (.istore_n 2, 1) := by decide +kernel
theorem d_Z_codeOfStart_4 : decode b_Z_codeOfStart 4 = .ok (.iload_n 2, 1) := by decide +kernel
theorem d_Z_codeOfStart_5 : decode b_Z_codeOfStart 5 = .ok (.aload_n 0, 1) := by decide +kernel
theorem d_Z_codeOfStart_6 : decode b_Z_codeOfStart 6 = .ok (.getfield 53, 3) := by decide +kernel
theorem d_Z_codeOfStart_9 : decode b_Z_codeOfStart 9 = .ok (.if_icmp .ge 22, 3) := by decide +kernel
theorem d_Z_codeOfStart_12 : decode b_Z_codeOfStart 12 = .ok (.iload_n 1, 1) := by decide +kernel
theorem d_Z_codeOfStart_13 : decode b_Z_codeOfStart 13 = .ok (.aload_n 0, 1) := by decide +kernel
theorem d_Z_codeOfStart_14 : decode b_Z_codeOfStart 14 = .ok (.getfield 16, 3) := by decide +kernel
theorem d_Z_codeOfStart_17 : decode b_Z_codeOfStart 17 = .ok (.iload_n 2, 1) := by decide +kernel
theorem d_Z_codeOfStart_18 : decode b_Z_codeOfStart 18 = .ok (.iaload, 1) := by decide +kernel
theorem d_Z_codeOfStart_19 : decode b_Z_codeOfStart 19 = .ok (.iconst 3, 1) := by decide +kernel
theorem d_Z_codeOfStart_20 : decode b_Z_codeOfStart 20 = .ok (.iload_n 2, 1) := by decide +kernel
theorem d_Z_codeOfStart_21 : decode b_Z_codeOfStart 21 = .ok (.imul, 1) := by decide +kernel
theorem d_Z_codeOfStart_22 : decode b_Z_codeOfStart 22 = .ok (.ishl, 1) := by decide +kernel
theorem d_Z_codeOfStart_23 : decode b_Z_codeOfStart 23 = .ok (.ior, 1) := by decide +kernel
theorem d_Z_codeOfStart_24 : decode b_Z_codeOfStart 24 = .ok (.istore_n 1, 1) := by decide +kernel
theorem d_Z_codeOfStart_25 : decode b_Z_codeOfStart 25 = .ok (.iinc 2 1, 3) := by decide +kernel
theorem d_Z_codeOfStart_28 : decode b_Z_codeOfStart 28 = .ok (.goto (-24), 3) := by decide +kernel
theorem d_Z_codeOfStart_31 : decode b_Z_codeOfStart 31 = .ok (.iload_n 1, 1) := by decide +kernel
theorem d_Z_codeOfStart_32 : decode b_Z_codeOfStart 32 = .ok (.ireturn, 1) := by decide +kernel
theorem d_Z_codeOfGoal_0 : decode b_Z_codeOfGoal 0 = .ok (.iconst 0, 1) := by decide +kernel
theorem d_Z_codeOfGoal_1 : decode b_Z_codeOfGoal 1 = .ok (.istore_n 1, 1) := by decide +kernel
theorem d_Z_codeOfGoal_2 : decode b_Z_codeOfGoal 2 = .ok (.iconst 0, 1) := by decide +kernel
theorem d_Z_codeOfGoal_3 : decode b_Z_codeOfGoal 3 = .ok (.istore_n 2, 1) := by decide +kernel
theorem d_Z_codeOfGoal_4 : decode b_Z_codeOfGoal 4 = .ok (.iload_n 2, 1) := by decide +kernel
theorem d_Z_codeOfGoal_5 : decode b_Z_codeOfGoal 5 = .ok (.aload_n 0, 1) := by decide +kernel
theorem d_Z_codeOfGoal_6 : decode b_Z_codeOfGoal 6 = .ok (.getfield 53, 3) := by decide +kernel
theorem d_Z_codeOfGoal_9 : decode b_Z_codeOfGoal 9 = .ok (.if_icmp .ge 22, 3) := by decide +kernel
theorem d_Z_codeOfGoal_12 : decode b_Z_codeOfGoal 12 = .ok (.iload_n 1, 1) := by decide +kernel
theorem d_Z_codeOfGoal_13 : decode b_Z_codeOfGoal 13 = .ok (.aload_n 0, 1) := by decide +kernel
theorem d_Z_codeOfGoal_14 : decode b_Z_codeOfGoal 14 = .ok (.getfield 19, 3) := by decide +kernel
theorem d_Z_codeOfGoal_17 : decode b_Z_codeOfGoal 17 = .ok (.iload_n 2, 1) := by decide +kernel
theorem d_Z_codeOfGoal_18 : decode b_Z_codeOfGoal 18 = .ok (.iaload, 1) := by decide +kernel
theorem d_Z_codeOfGoal_19 : decode b_Z_codeOfGoal 19 = .ok (.iconst 3, 1) := by decide +kernel
theorem d_Z_codeOfGoal_20 : decode b_Z_codeOfGoal 20 = .ok (.iload_n 2, 1) := by decide +kernel
theorem d_Z_codeOfGoal_21 : decode b_Z_codeOfGoal 21 = .ok (.imul, 1) := by decide +kernel
theorem d_Z_codeOfGoal_22 : decode b_Z_codeOfGoal 22 = .ok (.ishl, 1) := by decide +kernel
theorem d_Z_codeOfGoal_23 : decode b_Z_codeOfGoal 23 = .ok (.ior, 1) := by decide +kernel
theorem d_Z_codeOfGoal_24 : decode b_Z_codeOfGoal 24 = .ok (.istore_n 1, 1) := by decide +kernel
theorem d_Z_codeOfGoal_25 : decode b_Z_codeOfGoal 25 = .ok (.iinc 2 1, 3) := by decide +kernel
theorem d_Z_codeOfGoal_28 : decode b_Z_codeOfGoal 28 = .ok (.goto (-24), 3) := by decide +kernel
theorem d_Z_codeOfGoal_31 : decode b_Z_codeOfGoal 31 = .ok (.iload_n 1, 1) := by decide +kernel
theorem d_Z_codeOfGoal_32 : decode b_Z_codeOfGoal 32 = .ok (.ireturn, 1) := by decide +kernel
theorem d_Z_done_0 : decode b_Z_done 0 = .ok (.iconst 0, 1) := by decide +kernel
theorem d_Z_done_1 : decode b_Z_done 1 = .ok (.istore 4, 2) := by decide +kernel
theorem d_Z_done_3 : decode b_Z_done 3 = .ok (.iconst 0, 1) := by decide +kernel
theorem d_Z_done_4 : decode b_Z_done 4 = .ok (.istore 5, 2) := by decide +kernel
theorem d_Z_done_6 : decode b_Z_done 6 = .ok (.iload 5, 2) := by decide +kernel
theorem d_Z_done_8 : decode b_Z_done 8 = .ok (.aload_n 0, 1) := by decide +kernel
theorem d_Z_done_9 : decode b_Z_done 9 = .ok (.getfield 53, 3) := by decide +kernel
theorem d_Z_done_12 : decode b_Z_done 12 = .ok (.if_icmp .ge 60, 3) := by decide +kernel
theorem d_Z_done_15 : decode b_Z_done 15 = .ok (.aload_n 0, 1) := by decide +kernel
theorem d_Z_done_16 : decode b_Z_done 16 = .ok (.getfield 7, 3) := by decide +kernel
theorem d_Z_done_19 : decode b_Z_done 19 = .ok (.bipush 8, 2) := by decide +kernel
theorem d_Z_done_21 : decode b_Z_done 21 = .ok (.iload_n 2, 1) := by decide +kernel
theorem d_Z_done_22 : decode b_Z_done 22 = .ok (.imul, 1) := by decide +kernel
theorem d_Z_done_23 : decode b_Z_done 23 = .ok (.iload 5, 2) := by decide +kernel
theorem d_Z_done_25 : decode b_Z_done 25 = .ok (.iadd, 1) := by decide +kernel
theorem d_Z_done_26 : decode b_Z_done 26 = .ok (.iaload, 1) := by decide +kernel
theorem d_Z_done_27 : decode b_Z_done 27 = .ok (.istore 6, 2) := by decide +kernel
theorem d_Z_done_29 : decode b_Z_done 29 = .ok (.iload 4, 2) := by decide +kernel
theorem d_Z_done_31 : decode b_Z_done 31 = .ok (.iload_n 1, 1) := by decide +kernel
theorem d_Z_done_32 : decode b_Z_done 32 = .ok (.iconst 3, 1) := by decide +kernel
theorem d_Z_done_33 : decode b_Z_done 33 = .ok (.iload_n 3, 1) := by decide +kernel
theorem d_Z_done_34 : decode b_Z_done 34 = .ok (.ifCond .eq 8, 3) := by decide +kernel
theorem d_Z_done_37 : decode b_Z_done 37 = .ok (.iload 6, 2) := by decide +kernel
theorem d_Z_done_39 : decode b_Z_done 39 = .ok (.goto 5, 3) := by decide +kernel
theorem d_Z_done_42 : decode b_Z_done 42 = .ok (.iload 5, 2) := by decide +kernel
theorem d_Z_done_44 : decode b_Z_done 44 = .ok (.imul, 1) := by decide +kernel
theorem d_Z_done_45 : decode b_Z_done 45 = .ok (.ishr, 1) := by decide +kernel
theorem d_Z_done_46 : decode b_Z_done 46 = .ok (.bipush 7, 2) := by decide +kernel
theorem d_Z_done_48 : decode b_Z_done 48 = .ok (.iand, 1) := by decide +kernel
theorem d_Z_done_49 : decode b_Z_done 49 = .ok (.iconst 3, 1) := by decide +kernel
theorem d_Z_done_50 : decode b_Z_done 50 = .ok (.iload_n 3, 1) := by decide +kernel
theorem d_Z_done_51 : decode b_Z_done 51 = .ok (.ifCond .eq 8, 3) := by decide +kernel
theorem d_Z_done_54 : decode b_Z_done 54 = .ok (.iload 5, 2) := by decide +kernel
theorem d_Z_done_56 : decode b_Z_done 56 = .ok (.goto 5, 3) := by decide +kernel
theorem d_Z_done_59 : decode b_Z_done 59 = .ok (.iload 6, 2) := by decide +kernel
theorem d_Z_done_61 : decode b_Z_done 61 = .ok (.imul, 1) := by decide +kernel
theorem d_Z_done_62 : decode b_Z_done 62 = .ok (.ishl, 1) := by decide +kernel
theorem d_Z_done_63 : decode b_Z_done 63 = .ok (.ior, 1) := by decide +kernel
theorem d_Z_done_64 : decode b_Z_done 64 = .ok (.istore 4, 2) := by decide +kernel
theorem d_Z_done_66 : decode b_Z_done 66 = .ok (.iinc 5 1, 3) := by decide +kernel
theorem d_Z_done_69 : decode b_Z_done 69 = .ok (.goto (-63), 3) := by decide +kernel
theorem d_Z_done_72 : decode b_Z_done 72 = .ok (.iload 4, 2) := by decide +kernel
theorem d_Z_done_74 : decode b_Z_done 74 = .ok (.ireturn, 1) := by decide +kernel
theorem d_Z_seatOf_0 : decode b_Z_seatOf 0 = .ok (.iload_n 1, 1) := by decide +kernel
theorem d_Z_seatOf_1 : decode b_Z_seatOf 1 = .ok (.ldc 83, 2) := by decide +kernel
theorem d_Z_seatOf_3 : decode b_Z_seatOf 3 = .ok (.imul, 1) := by decide +kernel
theorem d_Z_seatOf_4 : decode b_Z_seatOf 4 = .ok (.bipush 7, 2) := by decide +kernel
theorem d_Z_seatOf_6 : decode b_Z_seatOf 6 = .ok (.iushr, 1) := by decide +kernel
theorem d_Z_seatOf_7 : decode b_Z_seatOf 7 = .ok (.ldc 37, 2) := by decide +kernel
theorem d_Z_seatOf_9 : decode b_Z_seatOf 9 = .ok (.irem, 1) := by decide +kernel
theorem d_Z_seatOf_10 : decode b_Z_seatOf 10 = .ok (.istore_n 2, 1) := by decide +kernel
theorem d_Z_seatOf_11 : decode b_Z_seatOf 11 = .ok (.aload_n 0, 1) := by decide +kernel
theorem d_Z_seatOf_12 : decode b_Z_seatOf 12 = .ok (.getfield 38, 3) := by decide +kernel
theorem d_Z_seatOf_15 : decode b_Z_seatOf 15 = .ok (.iload_n 2, 1) := by decide +kernel
theorem d_Z_seatOf_16 : decode b_Z_seatOf 16 = .ok (.iaload, 1) := by decide +kernel
theorem d_Z_seatOf_17 : decode b_Z_seatOf 17 = .ok (.ifCond .eq 30, 3) := by decide +kernel
theorem d_Z_seatOf_20 : decode b_Z_seatOf 20 = .ok (.aload_n 0, 1) := by decide +kernel
theorem d_Z_seatOf_21 : decode b_Z_seatOf 21 = .ok (.getfield 27, 3) := by decide +kernel
theorem d_Z_seatOf_24 : decode b_Z_seatOf 24 = .ok (.aload_n 0, 1) := by decide +kernel
theorem d_Z_seatOf_25 : decode b_Z_seatOf 25 = .ok (.getfield 38, 3) := by decide +kernel
theorem d_Z_seatOf_28 : decode b_Z_seatOf 28 = .ok (.iload_n 2, 1) := by decide +kernel
theorem d_Z_seatOf_29 : decode b_Z_seatOf 29 = .ok (.iaload, 1) := by decide +kernel
theorem d_Z_seatOf_30 : decode b_Z_seatOf 30 = .ok (.iconst 1, 1) := by decide +kernel
theorem d_Z_seatOf_31 : decode b_Z_seatOf 31 = .ok (.isub, 1) := by decide +kernel
theorem d_Z_seatOf_32 : decode b_Z_seatOf 32 = .ok (.iaload, 1) := by decide +kernel
theorem d_Z_seatOf_33 : decode b_Z_seatOf 33 = .ok (.iload_n 1, 1) := by decide +kernel
theorem d_Z_seatOf_34 : decode b_Z_seatOf 34 = .ok (.if_icmp .eq 13, 3) := by decide +kernel
theorem d_Z_seatOf_37 : decode b_Z_seatOf 37 = .ok (.iload_n 2, 1) := by decide +kernel
theorem d_Z_seatOf_38 : decode b_Z_seatOf 38 = .ok (.iconst 1, 1) := by decide +kernel
theorem d_Z_seatOf_39 : decode b_Z_seatOf 39 = .ok (.iadd, 1) := by decide +kernel
theorem d_Z_seatOf_40 : decode b_Z_seatOf 40 = .ok (.ldc 37, 2) := by decide +kernel
theorem d_Z_seatOf_42 : decode b_Z_seatOf 42 = .ok (.irem, 1) := by decide +kernel
theorem d_Z_seatOf_43 : decode b_Z_seatOf 43 = .ok (.istore_n 2, 1) := by decide +kernel
theorem d_Z_seatOf_44 : decode b_Z_seatOf 44 = .ok (.goto (-33), 3) := by decide +kernel
theorem d_Z_seatOf_47 : decode b_Z_seatOf 47 = .ok (.iload_n 2, 1) := by decide +kernel
theorem d_Z_seatOf_48 : decode b_Z_seatOf 48 = .ok (.ireturn, 1) := by decide +kernel
theorem d_Z_numberOf_0 : decode b_Z_numberOf 0 = .ok (.aload_n 0, 1) := by decide +kernel
theorem d_Z_numberOf_1 : decode b_Z_numberOf 1 = .ok (.getfield 38, 3) := by decide +kernel
theorem d_Z_numberOf_4 : decode b_Z_numberOf 4 = .ok (.aload_n 0, 1) := by decide +kernel
theorem d_Z_numberOf_5 : decode b_Z_numberOf 5 = .ok (.iload_n 1, 1) := by decide +kernel
theorem d_Z_numberOf_6 : decode b_Z_numberOf 6 = .ok (.invokevirtual 84, 3) := by decide +kernel
theorem d_Z_numberOf_9 : decode b_Z_numberOf 9 = .ok (.iaload, 1) := by decide +kernel
theorem d_Z_numberOf_10 : decode b_Z_numberOf 10 = .ok (.iconst 1, 1) := by decide +kernel
theorem d_Z_numberOf_11 : decode b_Z_numberOf 11 = .ok (.isub, 1) := by decide +kernel
theorem d_Z_numberOf_12 : decode b_Z_numberOf 12 = .ok (.ireturn, 1) := by decide +kernel
theorem d_Z_put_0 : decode b_Z_put 0 = .ok (.aload_n 0, 1) := by decide +kernel
theorem d_Z_put_1 : decode b_Z_put 1 = .ok (.iload_n 1, 1) := by decide +kernel
theorem d_Z_put_2 : decode b_Z_put 2 = .ok (.invokevirtual 84, 3) := by decide +kernel
theorem d_Z_put_5 : decode b_Z_put 5 = .ok (.istore_n 3, 1) := by decide +kernel
theorem d_Z_put_6 : decode b_Z_put 6 = .ok (.aload_n 0, 1) := by decide +kernel
theorem d_Z_put_7 : decode b_Z_put 7 = .ok (.getfield 38, 3) := by decide +kernel
theorem d_Z_put_10 : decode b_Z_put 10 = .ok (.iload_n 3, 1) := by decide +kernel
theorem d_Z_put_11 : decode b_Z_put 11 = .ok (.iaload, 1) := by decide +kernel
theorem d_Z_put_12 : decode b_Z_put 12 = .ok (.ifCond .ne 53, 3) := by decide +kernel
theorem d_Z_put_15 : decode b_Z_put 15 = .ok (.aload_n 0, 1) := by decide +kernel
theorem d_Z_put_16 : decode b_Z_put 16 = .ok (.getfield 27, 3) := by decide +kernel
theorem d_Z_put_19 : decode b_Z_put 19 = .ok (.aload_n 0, 1) := by decide +kernel
theorem d_Z_put_20 : decode b_Z_put 20 = .ok (.getfield 87, 3) := by decide +kernel
theorem d_Z_put_23 : decode b_Z_put 23 = .ok (.iload_n 1, 1) := by decide +kernel
theorem d_Z_put_24 : decode b_Z_put 24 = .ok (.iastore, 1) := by decide +kernel
theorem d_Z_put_25 : decode b_Z_put 25 = .ok (.aload_n 0, 1) := by decide +kernel
theorem d_Z_put_26 : decode b_Z_put 26 = .ok (.getfield 30, 3) := by decide +kernel
theorem d_Z_put_29 : decode b_Z_put 29 = .ok (.aload_n 0, 1) := by decide +kernel
theorem d_Z_put_30 : decode b_Z_put 30 = .ok (.getfield 87, 3) := by decide +kernel
theorem d_Z_put_33 : decode b_Z_put 33 = .ok (.iload_n 2, 1) := by decide +kernel
theorem d_Z_put_34 : decode b_Z_put 34 = .ok (.iastore, 1) := by decide +kernel
theorem d_Z_put_35 : decode b_Z_put 35 = .ok (.aload_n 0, 1) := by decide +kernel
theorem d_Z_put_36 : decode b_Z_put 36 = .ok (.getfield 33, 3) := by decide +kernel
theorem d_Z_put_39 : decode b_Z_put 39 = .ok (.aload_n 0, 1) := by decide +kernel
theorem d_Z_put_40 : decode b_Z_put 40 = .ok (.getfield 87, 3) := by decide +kernel
theorem d_Z_put_43 : decode b_Z_put 43 = .ok (.lconst 0, 1) := by decide +kernel
theorem d_Z_put_44 : decode b_Z_put 44 = .ok (.lastore, 1) := by decide +kernel
theorem d_Z_put_45 : decode b_Z_put 45 = .ok (.aload_n 0, 1) := by decide +kernel
theorem d_Z_put_46 : decode b_Z_put 46 = .ok (.dup, 1) := by decide +kernel
theorem d_Z_put_47 : decode b_Z_put 47 = .ok (.getfield 87, 3) := by decide +kernel
theorem d_Z_put_50 : decode b_Z_put 50 = .ok (.iconst 1, 1) := by decide +kernel
theorem d_Z_put_51 : decode b_Z_put 51 = .ok (.iadd, 1) := by decide +kernel
theorem d_Z_put_52 : decode b_Z_put 52 = .ok (.putfield 87, 3) := by decide +kernel
theorem d_Z_put_55 : decode b_Z_put 55 = .ok (.aload_n 0, 1) := by decide +kernel
theorem d_Z_put_56 : decode b_Z_put 56 = .ok (.getfield 38, 3) := by decide +kernel
theorem d_Z_put_59 : decode b_Z_put 59 = .ok (.iload_n 3, 1) := by decide +kernel
theorem d_Z_put_60 : decode b_Z_put 60 = .ok (.aload_n 0, 1) := by decide +kernel
theorem d_Z_put_61 : decode b_Z_put 61 = .ok (.getfield 87, 3) := by decide +kernel
theorem d_Z_put_64 : decode b_Z_put 64 = .ok (.iastore, 1) := by decide +kernel
theorem d_Z_put_65 : decode b_Z_put 65 = .ok (.aload_n 0, 1) := by decide +kernel
theorem d_Z_put_66 : decode b_Z_put 66 = .ok (.getfield 38, 3) := by decide +kernel
theorem d_Z_put_69 : decode b_Z_put 69 = .ok (.iload_n 3, 1) := by decide +kernel
theorem d_Z_put_70 : decode b_Z_put 70 = .ok (.iaload, 1) := by decide +kernel
theorem d_Z_put_71 : decode b_Z_put 71 = .ok (.iconst 1, 1) := by decide +kernel
theorem d_Z_put_72 : decode b_Z_put 72 = .ok (.isub, 1) := by decide +kernel
theorem d_Z_put_73 : decode b_Z_put 73 = .ok (.ireturn, 1) := by decide +kernel
theorem kw_18 : (Cond.selects "TwoEndSearchModel" ⟨"TwoEndSearchModel", "isMove", "(I)Z"⟩ ⟨"TwoEndSearchModel", "isMove", "(I)Z"⟩ : Cond) ∈ bigW := bigW_of 18 (by decide +kernel) (by decide +kernel)
theorem kw_25 : (Cond.selects "TwoEndSearchModel" ⟨"TwoEndSearchModel", "seatOf", "(I)I"⟩ ⟨"TwoEndSearchModel", "seatOf", "(I)I"⟩ : Cond) ∈ bigW := bigW_of 25 (by decide +kernel) (by decide +kernel)
theorem kw_37 : (Cond.initialized "TwoEndSearchModel" : Cond) ∈ bigW := bigW_of 37 (by decide +kernel) (by decide +kernel)
theorem kw_456 : (Cond.constant "TwoEndSearchModel" 37 65536 : Cond) ∈ bigW := bigW_of 456 (by decide +kernel) (by decide +kernel)
theorem kw_465 : (Cond.fieldLink "TwoEndSearchModel" 59 "TwoEndSearchModel" "thrown" "I" : Cond) ∈ bigW := bigW_of 465 (by decide +kernel) (by decide +kernel)
theorem kw_466 : (Cond.fieldLink "TwoEndSearchModel" 53 "TwoEndSearchModel" "places" "I" : Cond) ∈ bigW := bigW_of 466 (by decide +kernel) (by decide +kernel)
theorem kw_467 : (Cond.fieldLink "TwoEndSearchModel" 62 "TwoEndSearchModel" "moves" "I" : Cond) ∈ bigW := bigW_of 467 (by decide +kernel) (by decide +kernel)
theorem kw_468 : (Cond.fieldLink "TwoEndSearchModel" 7 "TwoEndSearchModel" "to" "[I" : Cond) ∈ bigW := bigW_of 468 (by decide +kernel) (by decide +kernel)
theorem kw_469 : (Cond.fieldLink "TwoEndSearchModel" 13 "TwoEndSearchModel" "orders" "[I" : Cond) ∈ bigW := bigW_of 469 (by decide +kernel) (by decide +kernel)
theorem kw_470 : (Cond.fieldLink "TwoEndSearchModel" 16 "TwoEndSearchModel" "start" "[I" : Cond) ∈ bigW := bigW_of 470 (by decide +kernel) (by decide +kernel)
theorem kw_471 : (Cond.fieldLink "TwoEndSearchModel" 19 "TwoEndSearchModel" "goal" "[I" : Cond) ∈ bigW := bigW_of 471 (by decide +kernel) (by decide +kernel)
theorem kw_472 : (Cond.fieldLink "TwoEndSearchModel" 22 "TwoEndSearchModel" "known" "I" : Cond) ∈ bigW := bigW_of 472 (by decide +kernel) (by decide +kernel)
theorem kw_474 : (Cond.fieldLink "TwoEndSearchModel" 87 "TwoEndSearchModel" "size" "I" : Cond) ∈ bigW := bigW_of 474 (by decide +kernel) (by decide +kernel)
theorem kw_475 : (Cond.fieldLink "TwoEndSearchModel" 27 "TwoEndSearchModel" "states" "[I" : Cond) ∈ bigW := bigW_of 475 (by decide +kernel) (by decide +kernel)
theorem kw_476 : (Cond.fieldLink "TwoEndSearchModel" 30 "TwoEndSearchModel" "steps" "[I" : Cond) ∈ bigW := bigW_of 476 (by decide +kernel) (by decide +kernel)
theorem kw_477 : (Cond.fieldLink "TwoEndSearchModel" 33 "TwoEndSearchModel" "ways" "[J" : Cond) ∈ bigW := bigW_of 477 (by decide +kernel) (by decide +kernel)
theorem kw_478 : (Cond.fieldLink "TwoEndSearchModel" 38 "TwoEndSearchModel" "seats" "[I" : Cond) ∈ bigW := bigW_of 478 (by decide +kernel) (by decide +kernel)
theorem kw_479 : (Cond.fieldLink "TwoEndSearchModel" 68 "TwoEndSearchModel" "isFound" "Z" : Cond) ∈ bigW := bigW_of 479 (by decide +kernel) (by decide +kernel)
theorem kw_539 : (Cond.methodLink "TwoEndSearchModel" 72 ⟨"TwoEndSearchModel", "isMove", "(I)Z"⟩ : Cond) ∈ bigW := bigW_of 539 (by decide +kernel) (by decide +kernel)
theorem kw_541 : (Cond.instanceMethod ⟨"TwoEndSearchModel", "isMove", "(I)Z"⟩ : Cond) ∈ bigW := bigW_of 541 (by decide +kernel) (by decide +kernel)
theorem kw_542 : (Cond.code ⟨"TwoEndSearchModel", "isMove", "(I)Z"⟩ prog_7_method_6_code 2 (some .boolean) : Cond) ∈ bigW := bigW_of 542 (by decide +kernel) (by decide +kernel)
theorem kw_586 : (Cond.methodLink "TwoEndSearchModel" 84 ⟨"TwoEndSearchModel", "seatOf", "(I)I"⟩ : Cond) ∈ bigW := bigW_of 586 (by decide +kernel) (by decide +kernel)
theorem kw_588 : (Cond.instanceMethod ⟨"TwoEndSearchModel", "seatOf", "(I)I"⟩ : Cond) ∈ bigW := bigW_of 588 (by decide +kernel) (by decide +kernel)
theorem kw_589 : (Cond.code ⟨"TwoEndSearchModel", "seatOf", "(I)I"⟩ prog_7_method_17_code 3 (some .int) : Cond) ∈ bigW := bigW_of 589 (by decide +kernel) (by decide +kernel)
theorem kw_590 : (Cond.constant "TwoEndSearchModel" 83 40503 : Cond) ∈ bigW := bigW_of 590 (by decide +kernel) (by decide +kernel)
def po_Z_change (q : wz_Q) (az : Nat → Nat) (th : Int32) (n k : Nat) (kn bk : Int32) (sz : Nat) (fd : Int32) (ln : Nat) (fm : Int32) (fw : Int64) : wz_G → Prop := fun w => w = [zo_W q az th n k (-1) bk sz (nI 0) ln fm fw]
set_option maxHeartbeats 4000000 in
set_option maxRecDepth 100000 in
/-- what was known is gone -/
theorem c_Z_change (l : Launch) (D : va_G) (q : wz_Q) (az : Nat → Nat) (th : Int32) (n k : Nat) (kn bk : Int32) (sz : Nat) (fd : Int32) (ln : Nat) (fm : Int32) (fw : Int64)  : wz_Mv l y_Z_change ws_Z_change ({ frames := 0, cells := 0, slots := 0, locals := 0 } : Room) D q ([.ref (az 0)] : List Value) [zo_W q az th n k kn bk sz fd ln fm fw] (po_Z_change q az th n k kn bk sz fd ln fm fw) 0 0 := by
  intro sz9
  refine wz_enter (cc := b_Z_change) (maxL := 1) (ret := none) (Qc := fun A => (va_Qv (po_Z_change q az th n k kn bk sz fd ln fm fw) (wz_At D q A) A)) (by decide) (Nat.le_of_ble_eq_true rfl) ?_
  intro p e s m below meth c A ls C hP hD hS hl
  obtain ⟨hx, hb, hr, hml, hlocks, hown, hts, hN, hK, hA, hnm⟩ := C
  have hown : s.vm.findClass "TwoEndSearchModel" = some m.cls := hown
  have hl : lv_has ls 1 [(0, .ref (az 0))] := hl
  refine lv_aload_n hx hb d_Z_change_0 rfl (lv_at hl 0 rfl) ?_
  refine lv_iconst (v := (-1)) hx hb d_Z_change_1 (by decide) ?_
  refine wz_put (gs' := [zo_W q az th n k (-1) bk sz fd ln fm fw]) (v := .int (-1)) (T := T_Z) (N := 22) hx hb hts i_Z t_Z t_Z_ok n_Z hown hK hP hD hS 0 0 rfl rfl rfl 7 (by decide) (hts _ kw_472) rfl rfl (ty := t_Z 7) (by decide +kernel) rfl rfl (Nat.le_of_ble_eq_true rfl) d_Z_change_2 rfl (fun H locs hP hD hS => ?_)
  refine lv_aload_n hx hb d_Z_change_5 rfl (lv_at hl 0 rfl) ?_
  refine lv_iconst (v := nI 0) hx hb d_Z_change_6 (by decide) ?_
  refine wz_put (gs' := [zo_W q az th n k (-1) bk sz (nI 0) ln fm fw]) (v := .int (nI 0)) (T := T_Z) (N := 22) hx hb hts i_Z t_Z t_Z_ok n_Z hown hK hP hD hS 0 0 rfl rfl rfl 14 (by decide) (hts _ kw_479) rfl rfl (ty := t_Z 14) (by decide +kernel) rfl rfl (Nat.le_of_ble_eq_true rfl) d_Z_change_7 rfl (fun H locs hP hD hS => ?_)
  exact wz_vret hx hb hr hlocks hK hP hD hS d_Z_change_10 rfl
def po_Z_isMove (q : wz_Q) (az : Nat → Nat) (th : Int32) (n k : Nat) (kn bk : Int32) (sz : Nat) (fd : Int32) (ln : Nat) (fm : Int32) (fw : Int64) (x : Int32) : Int32 → wz_G → Prop := fun v w => w = [zo_W q az th n k kn bk sz fd ln fm fw] ∧ wz_bit v (∃ j, j < k ∧ x = nI j)
set_option maxHeartbeats 4000000 in
set_option maxRecDepth 100000 in
/-- Z_isMove -/
theorem c_Z_isMove (l : Launch) (D : va_G) (q : wz_Q) (az : Nat → Nat) (th : Int32) (n k : Nat) (kn bk : Int32) (sz : Nat) (fd : Int32) (ln : Nat) (fm : Int32) (fw : Int64) (x : Int32) (hk : k ≤ 6) : wz_Mi l y_Z_isMove ws_Z_isMove ({ frames := 0, cells := 0, slots := 0, locals := 0 } : Room) D q ([.ref (az 0), .int x] : List Value) [zo_W q az th n k kn bk sz fd ln fm fw] (po_Z_isMove q az th n k kn bk sz fd ln fm fw x) 0 0 := by
  intro sz9
  refine wz_enter (cc := b_Z_isMove) (maxL := 2) (ret := (some .boolean)) (Qc := fun A => (va_Qi (po_Z_isMove q az th n k kn bk sz fd ln fm fw x) (wz_At D q A) A)) (by decide) (Nat.le_of_ble_eq_true rfl) ?_
  intro p e s m below meth c A ls C hP hD hS hl
  obtain ⟨hx, hb, hr, hml, hlocks, hown, hts, hN, hK, hA, hnm⟩ := C
  have hown : s.vm.findClass "TwoEndSearchModel" = some m.cls := hown
  have hl : lv_has ls 2 [(0, .ref (az 0)), (1, .int x)] := hl
  refine lv_iload_n hx hb d_Z_isMove_0 rfl (lv_at hl 1 rfl) ?_
  refine lv_if_lt (tgt := 16) hx hb d_Z_isMove_1 (by decide) (fun hc => ?_) (fun hc => ?_)
  · skip
    refine lv_iconst (v := nI 0) hx hb d_Z_isMove_16 (by decide) ?_
    exact wz_zret hx hb hr hlocks hK hP hD hS d_Z_isMove_17 (by first | exact Or.inl rfl | exact Or.inr rfl) ⟨rfl, wz_bit_lt hc⟩
  · skip
    refine lv_iload_n hx hb d_Z_isMove_4 rfl (lv_at hl 1 rfl) ?_
    refine lv_aload_n hx hb d_Z_isMove_5 rfl (lv_at hl 0 rfl) ?_
    refine wz_get (v := .int (nI k)) (T := T_Z) (N := 22) hx hb hts i_Z hown hK hP 0 0 rfl rfl rfl 2 (by decide) (hts _ kw_467) rfl rfl d_Z_isMove_6 ?_
    refine lv_icmp_ge (tgt := 16) hx hb d_Z_isMove_9 (by decide) (fun hc2 => ?_) (fun hc2 => ?_)
    · skip
      refine lv_iconst (v := nI 0) hx hb d_Z_isMove_16 (by decide) ?_
      exact wz_zret hx hb hr hlocks hK hP hD hS d_Z_isMove_17 (by first | exact Or.inl rfl | exact Or.inr rfl) ⟨rfl, wz_bit_ge (by omega) hc2⟩
    · skip
      refine lv_iconst (v := nI 1) hx hb d_Z_isMove_12 (by decide) ?_
      refine lv_goto (tgt := 17) hx hb d_Z_isMove_13 (by decide) ?_
      exact wz_zret hx hb hr hlocks hK hP hD hS d_Z_isMove_17 (by first | exact Or.inl rfl | exact Or.inr rfl) ⟨rfl, wz_bit_in (by omega) hc hc2⟩
def po_Z_isPlace (q : wz_Q) (az : Nat → Nat) (th : Int32) (n k : Nat) (kn bk : Int32) (sz : Nat) (fd : Int32) (ln : Nat) (fm : Int32) (fw : Int64) (x : Int32) : Int32 → wz_G → Prop := fun v w => w = [zo_W q az th n k kn bk sz fd ln fm fw] ∧ wz_bit v (∃ j, j < n ∧ x = nI j)
set_option maxHeartbeats 4000000 in
set_option maxRecDepth 100000 in
/-- Z_isPlace -/
theorem c_Z_isPlace (l : Launch) (D : va_G) (q : wz_Q) (az : Nat → Nat) (th : Int32) (n k : Nat) (kn bk : Int32) (sz : Nat) (fd : Int32) (ln : Nat) (fm : Int32) (fw : Int64) (x : Int32) (hn : n ≤ 8) : wz_Mi l y_Z_isPlace ws_Z_isPlace ({ frames := 0, cells := 0, slots := 0, locals := 0 } : Room) D q ([.ref (az 0), .int x] : List Value) [zo_W q az th n k kn bk sz fd ln fm fw] (po_Z_isPlace q az th n k kn bk sz fd ln fm fw x) 0 0 := by
  intro sz9
  refine wz_enter (cc := b_Z_isPlace) (maxL := 2) (ret := (some .boolean)) (Qc := fun A => (va_Qi (po_Z_isPlace q az th n k kn bk sz fd ln fm fw x) (wz_At D q A) A)) (by decide) (Nat.le_of_ble_eq_true rfl) ?_
  intro p e s m below meth c A ls C hP hD hS hl
  obtain ⟨hx, hb, hr, hml, hlocks, hown, hts, hN, hK, hA, hnm⟩ := C
  have hown : s.vm.findClass "TwoEndSearchModel" = some m.cls := hown
  have hl : lv_has ls 2 [(0, .ref (az 0)), (1, .int x)] := hl
  refine lv_iload_n hx hb d_Z_isPlace_0 rfl (lv_at hl 1 rfl) ?_
  refine lv_if_lt (tgt := 16) hx hb d_Z_isPlace_1 (by decide) (fun hc => ?_) (fun hc => ?_)
  · skip
    refine lv_iconst (v := nI 0) hx hb d_Z_isPlace_16 (by decide) ?_
    exact wz_zret hx hb hr hlocks hK hP hD hS d_Z_isPlace_17 (by first | exact Or.inl rfl | exact Or.inr rfl) ⟨rfl, wz_bit_lt hc⟩
  · skip
    refine lv_iload_n hx hb d_Z_isPlace_4 rfl (lv_at hl 1 rfl) ?_
    refine lv_aload_n hx hb d_Z_isPlace_5 rfl (lv_at hl 0 rfl) ?_
    refine wz_get (v := .int (nI n)) (T := T_Z) (N := 22) hx hb hts i_Z hown hK hP 0 0 rfl rfl rfl 1 (by decide) (hts _ kw_466) rfl rfl d_Z_isPlace_6 ?_
    refine lv_icmp_ge (tgt := 16) hx hb d_Z_isPlace_9 (by decide) (fun hc2 => ?_) (fun hc2 => ?_)
    · skip
      refine lv_iconst (v := nI 0) hx hb d_Z_isPlace_16 (by decide) ?_
      exact wz_zret hx hb hr hlocks hK hP hD hS d_Z_isPlace_17 (by first | exact Or.inl rfl | exact Or.inr rfl) ⟨rfl, wz_bit_ge (by omega) hc2⟩
    · skip
      refine lv_iconst (v := nI 1) hx hb d_Z_isPlace_12 (by decide) ?_
      refine lv_goto (tgt := 17) hx hb d_Z_isPlace_13 (by decide) ?_
      exact wz_zret hx hb hr hlocks hK hP hD hS d_Z_isPlace_17 (by first | exact Or.inl rfl | exact Or.inr rfl) ⟨rfl, wz_bit_in (by omega) hc hc2⟩
def po_Z_isMeasure (q : wz_Q) (x : Int32) : Int32 → wz_G → Prop := fun v w => w = [] ∧ wz_bit v (x = nI 0 ∨ x = nI 1)
set_option maxHeartbeats 4000000 in
set_option maxRecDepth 100000 in
/-- a measure -/
theorem c_Z_isMeasure (l : Launch) (D : va_G) (q : wz_Q) (x : Int32)  : wz_Mi l y_Z_isMeasure ws_Z_isMeasure ({ frames := 0, cells := 0, slots := 0, locals := 0 } : Room) D q ([.int x] : List Value) [] (po_Z_isMeasure q x) 0 0 := by
  intro sz9
  refine wz_enter (cc := b_Z_isMeasure) (maxL := 1) (ret := (some .boolean)) (Qc := fun A => (va_Qi (po_Z_isMeasure q x) (wz_At D q A) A)) (by decide) (Nat.le_of_ble_eq_true rfl) ?_
  intro p e s m below meth c A ls C hP hD hS hl
  obtain ⟨hx, hb, hr, hml, hlocks, hown, hts, hN, hK, hA, hnm⟩ := C
  have hown : s.vm.findClass "TwoEndSearchModel" = some m.cls := hown
  have hl : lv_has ls 1 [(0, .int x)] := hl
  refine lv_iload_n hx hb d_Z_isMeasure_0 rfl (lv_at hl 0 rfl) ?_
  refine lv_if_eq (tgt := 9) hx hb d_Z_isMeasure_1 (by decide) (fun hc => ?_) (fun hc => ?_)
  · skip
    refine lv_iconst (v := nI 1) hx hb d_Z_isMeasure_9 (by decide) ?_
    refine lv_goto (tgt := 14) hx hb d_Z_isMeasure_10 (by decide) ?_
    exact wz_zret hx hb hr hlocks hK hP hD hS d_Z_isMeasure_14 (by first | exact Or.inl rfl | exact Or.inr rfl) ⟨rfl, Or.inl ⟨rfl, Or.inl hc⟩⟩
  · skip
    refine lv_iload_n hx hb d_Z_isMeasure_4 rfl (lv_at hl 0 rfl) ?_
    refine lv_iconst (v := nI 1) hx hb d_Z_isMeasure_5 (by decide) ?_
    refine lv_icmp_ne (tgt := 13) hx hb d_Z_isMeasure_6 (by decide) (fun hc2 => ?_) (fun hc2 => ?_)
    · skip
      refine lv_iconst (v := nI 0) hx hb d_Z_isMeasure_13 (by decide) ?_
      exact wz_zret hx hb hr hlocks hK hP hD hS d_Z_isMeasure_14 (by first | exact Or.inl rfl | exact Or.inr rfl) ⟨rfl, Or.inr ⟨rfl, fun q => q.elim hc hc2⟩⟩
    · skip
      refine lv_iconst (v := nI 1) hx hb d_Z_isMeasure_9 (by decide) ?_
      refine lv_goto (tgt := 14) hx hb d_Z_isMeasure_10 (by decide) ?_
      exact wz_zret hx hb hr hlocks hK hP hD hS d_Z_isMeasure_14 (by first | exact Or.inl rfl | exact Or.inr rfl) ⟨rfl, Or.inl ⟨rfl, Or.inr hc2⟩⟩
def po_Z_most (q : wz_Q) (az : Nat → Nat) (th : Int32) (n k : Nat) (kn bk : Int32) (sz : Nat) (fd : Int32) (ln : Nat) (fm : Int32) (fw : Int64) (to fo : Nat → Int32) (j : Nat) (x : Int32) : Int32 → wz_G → Prop := fun v w => w = [zo_W q az th n k kn bk sz fd ln fm fw, zt_W q az to fo] ∧ v = if x = 0 then nI 1 else fo j - nI 1
set_option maxHeartbeats 4000000 in
set_option maxRecDepth 100000 in
/-- how often a step may do a move -/
theorem c_Z_most (l : Launch) (D : va_G) (q : wz_Q) (az : Nat → Nat) (th : Int32) (n k : Nat) (kn bk : Int32) (sz : Nat) (fd : Int32) (ln : Nat) (fm : Int32) (fw : Int64) (to fo : Nat → Int32) (j : Nat) (x : Int32) (hj : j < 6) : wz_Mi l y_Z_most ws_Z_most ({ frames := 0, cells := 0, slots := 0, locals := 0 } : Room) D q ([.ref (az 0), .int (nI j), .int x] : List Value) [zo_W q az th n k kn bk sz fd ln fm fw, zt_W q az to fo] (po_Z_most q az th n k kn bk sz fd ln fm fw to fo j x) 0 0 := by
  intro sz9
  refine wz_enter (cc := b_Z_most) (maxL := 3) (ret := (some .int)) (Qc := fun A => (va_Qi (po_Z_most q az th n k kn bk sz fd ln fm fw to fo j x) (wz_At D q A) A)) (by decide) (Nat.le_of_ble_eq_true rfl) ?_
  intro p e s m below meth c A ls C hP hD hS hl
  obtain ⟨hx, hb, hr, hml, hlocks, hown, hts, hN, hK, hA, hnm⟩ := C
  have hown : s.vm.findClass "TwoEndSearchModel" = some m.cls := hown
  have hl : lv_has ls 3 [(0, .ref (az 0)), (1, .int (nI j)), (2, .int x)] := hl
  refine lv_iload_n hx hb d_Z_most_0 rfl (lv_at hl 2 rfl) ?_
  refine lv_if_ne (tgt := 8) hx hb d_Z_most_1 (by decide) (fun hc => ?_) (fun hc => ?_)
  · skip
    refine lv_aload_n hx hb d_Z_most_8 rfl (lv_at hl 0 rfl) ?_
    refine wz_get (v := .ref (az 2)) (T := T_Z) (N := 22) hx hb hts i_Z hown hK hP 0 0 rfl rfl rfl 4 (by decide) (hts _ kw_469) rfl rfl d_Z_most_9 ?_
    refine lv_iload_n hx hb d_Z_most_12 rfl (lv_at hl 1 rfl) ?_
    refine wz_iald hx hb hK hP 1 1 (j := j) rfl rfl (by omega) (by decide) d_Z_most_13 ?_
    refine lv_iconst (v := nI 1) hx hb d_Z_most_14 (by decide) ?_
    refine lv_isub hx hb d_Z_most_15 ?_
    exact wz_iret hx hb hr hlocks hK hP hD hS d_Z_most_16 ⟨rfl, (if_neg hc).symm⟩
  · skip
    refine lv_iconst (v := nI 1) hx hb d_Z_most_4 (by decide) ?_
    refine lv_goto (tgt := 16) hx hb d_Z_most_5 (by decide) ?_
    exact wz_iret hx hb hr hlocks hK hP hD hS d_Z_most_16 ⟨rfl, (if_pos hc).symm⟩
def po_Z_order (q : wz_Q) (az : Nat → Nat) (th : Int32) (n k : Nat) (kn bk : Int32) (sz : Nat) (fd : Int32) (ln : Nat) (fm : Int32) (fw : Int64) (to fo : Nat → Int32) (x : Int32) : Int32 → wz_G → Prop := fun v w => w = [zo_W q az (nI 0) n k kn bk sz fd ln fm fw, zt_W q az to fo] ∧ ((∃ j, j < k ∧ x = nI j ∧ v = fo j) ∨ ((¬ ∃ j, j < k ∧ x = nI j) ∧ v = nI 0))
set_option maxHeartbeats 4000000 in
set_option maxRecDepth 100000 in
/-- a move's order -/
theorem c_Z_order (l : Launch) (D : va_G) (q : wz_Q) (az : Nat → Nat) (th : Int32) (n k : Nat) (kn bk : Int32) (sz : Nat) (fd : Int32) (ln : Nat) (fm : Int32) (fw : Int64) (to fo : Nat → Int32) (x : Int32) (hk : k ≤ 6) : wz_Mi l y_Z_order ws_Z_order ({ frames := 1, cells := 0, slots := 0, locals := 21 } : Room) D q ([.ref (az 0), .int x] : List Value) [zo_W q az th n k kn bk sz fd ln fm fw, zt_W q az to fo] (po_Z_order q az th n k kn bk sz fd ln fm fw to fo x) 0 0 := by
  intro sz9
  refine wz_enter (cc := b_Z_order) (maxL := 2) (ret := (some .int)) (Qc := fun A => (va_Qi (po_Z_order q az th n k kn bk sz fd ln fm fw to fo x) (wz_At D q A) A)) (by decide) (Nat.le_of_ble_eq_true rfl) ?_
  intro p e s m below meth c A ls C hP hD hS hl
  obtain ⟨hx, hb, hr, hml, hlocks, hown, hts, hN, hK, hA, hnm⟩ := C
  have hown : s.vm.findClass "TwoEndSearchModel" = some m.cls := hown
  have hl : lv_has ls 2 [(0, .ref (az 0)), (1, .int x)] := hl
  refine lv_aload_n hx hb d_Z_order_0 rfl (lv_at hl 0 rfl) ?_
  refine lv_iconst (v := nI 0) hx hb d_Z_order_1 (by decide) ?_
  refine wz_put (gs' := [zo_W q az (nI 0) n k kn bk sz fd ln fm fw, zt_W q az to fo]) (v := .int (nI 0)) (T := T_Z) (N := 22) hx hb hts i_Z t_Z t_Z_ok n_Z hown hK hP hD hS 0 0 rfl rfl rfl 0 (by decide) (hts _ kw_465) rfl rfl (ty := t_Z 0) (by decide +kernel) rfl rfl (Nat.le_of_ble_eq_true rfl) d_Z_order_2 rfl (fun H locs hP hD hS => ?_)
  refine lv_aload_n hx hb d_Z_order_5 rfl (lv_at hl 0 rfl) ?_
  refine lv_iload_n hx hb d_Z_order_6 rfl (lv_at hl 1 rfl) ?_
  have hQ := wz_split (n := 2) (gc := [zo_W q az (nI 0) n k kn bk sz fd ln fm fw]) (gr := [zt_W q az to fo]) [0] [1] rfl (by decide) rfl rfl hP hD
  refine wz_calli (va_runV (As := [.int x]) (rest := []) ⟨hx, hb, hml, hown, hts⟩ (c_Z_isMove l D q az (nI 0) n k kn bk sz fd ln fm fw x hk _) (cwV 1 hts (wz_goodV kw_539 kw_541 kw_18 kw_37 kw_542) rfl rfl rfl (by decide +kernel) ⟨Nat.le_of_ble_eq_true rfl, Nat.le_of_ble_eq_true rfl⟩) (wz_preV (gi := 0) (k := 0) hN hK hQ wz_L_ok rfl rfl rfl) rfl rfl hl.1 rfl (lv_room (Nat.le_of_ble_eq_true rfl)) d_Z_order_7 ⟨Nat.le_of_ble_eq_true rfl, Nat.le_of_ble_eq_true rfl⟩) hQ hS hA (fun v_7 gx H locs hp hP hD hS => ?_)
  obtain ⟨rfl, hp⟩ := hp
  obtain ⟨hP, hD⟩ := wz_ord (n := 2) (gs' := [zo_W q az (nI 0) n k kn bk sz fd ln fm fw, zt_W q az to fo]) [0, 1] rfl (by decide) rfl hP hD
  refine lv_if_eq (tgt := 22) hx hb d_Z_order_10 (by decide) (fun hc => ?_) (fun hc => ?_)
  · skip
    refine lv_iconst (v := nI 0) hx hb d_Z_order_22 (by decide) ?_
    exact wz_iret hx hb hr hlocks hK hP hD hS d_Z_order_23 ⟨rfl, Or.inr ⟨wz_bit_0 hp hc, rfl⟩⟩
  · skip
    obtain ⟨j, hj, rfl⟩ := wz_bit_1 hp hc
    refine lv_aload_n hx hb d_Z_order_13 rfl (lv_at hl 0 rfl) ?_
    refine wz_get (v := .ref (az 2)) (T := T_Z) (N := 22) hx hb hts i_Z hown hK hP 0 0 rfl rfl rfl 4 (by decide) (hts _ kw_469) rfl rfl d_Z_order_14 ?_
    refine lv_iload_n hx hb d_Z_order_17 rfl (lv_at hl 1 rfl) ?_
    refine wz_iald hx hb hK hP 1 1 (j := j) rfl rfl (by omega) (by decide) d_Z_order_18 ?_
    refine lv_goto (tgt := 23) hx hb d_Z_order_19 (by decide) ?_
    exact wz_iret hx hb hr hlocks hK hP hD hS d_Z_order_23 ⟨rfl, Or.inl ⟨j, hj, rfl, rfl⟩⟩
def po_Z_codeOfStart (q : wz_Q) (az : Nat → Nat) (th : Int32) (n k : Nat) (kn bk : Int32) (sz : Nat) (fd : Int32) (ln : Nat) (fm : Int32) (fw : Int64) (sb gb : Nat → Int32) (sa : Nat) : Int32 → wz_G → Prop := fun v w => w = [zo_W q az th n k kn bk sz fd ln fm fw, zs_W q az sb gb] ∧ v = nI sa
set_option maxHeartbeats 4000000 in
set_option maxRecDepth 100000 in
/-- the state as a number -/
theorem c_Z_codeOfStart (l : Launch) (D : va_G) (q : wz_Q) (az : Nat → Nat) (th : Int32) (n k : Nat) (kn bk : Int32) (sz : Nat) (fd : Int32) (ln : Nat) (fm : Int32) (fw : Int64) (sb gb : Nat → Int32) (sa : Nat) (hn : n ≤ 8) (hs : zs_ok n sb sa) : wz_Mi l y_Z_codeOfStart ws_Z_codeOfStart ({ frames := 0, cells := 0, slots := 0, locals := 0 } : Room) D q ([.ref (az 0)] : List Value) [zo_W q az th n k kn bk sz fd ln fm fw, zs_W q az sb gb] (po_Z_codeOfStart q az th n k kn bk sz fd ln fm fw sb gb sa) 0 0 := by
  intro sz9
  refine wz_enter (cc := b_Z_codeOfStart) (maxL := 3) (ret := (some .int)) (Qc := fun A => (va_Qi (po_Z_codeOfStart q az th n k kn bk sz fd ln fm fw sb gb sa) (wz_At D q A) A)) (by decide) (Nat.le_of_ble_eq_true rfl) ?_
  intro p e s m below meth c A ls C hP hD hS hl
  obtain ⟨hx, hb, hr, hml, hlocks, hown, hts, hN, hK, hA, hnm⟩ := C
  have hown : s.vm.findClass "TwoEndSearchModel" = some m.cls := hown
  have hl : lv_has ls 3 [(0, .ref (az 0))] := hl
  refine lv_iconst (v := nI 0) hx hb d_Z_codeOfStart_0 (by decide) ?_
  refine lv_istore_n (lv' := [(1, .int (nI 0)), (0, .ref (az 0))]) hx hb d_Z_codeOfStart_1 rfl hl (by decide) rfl (fun ls hl => ?_)
  refine lv_iconst (v := nI 0) hx hb d_Z_codeOfStart_2 (by decide) ?_
  refine lv_istore_n (lv' := [(2, .int (nI 0)), (1, .int (nI 0)), (0, .ref (az 0))]) hx hb d_Z_codeOfStart_3 rfl hl (by decide) rfl (fun ls hl => ?_)
  have loop : ∀ (d : Nat) (i : Nat), i ≤ n → n + 1 ≤ i + d → ∀ (H : Heap) (locs : List Loc) (ls : Array Slot), va_P D vwCl ([zo_W q az th n k kn bk sz fd ln fm fw, zs_W q az sb gb] : wz_G).flatten H → va_D A ([zo_W q az th n k kn bk sz fd ln fm fw, zs_W q az sb gb] : wz_G).flatten → va_S A s.heap H locs → lv_has ls 3 [(0, .ref (az 0)), (1, .int (nI (pz_mk (pz_dg sa) i))), (2, .int (nI i))] → W p l e ({ frames := 0, cells := 0, slots := 0, locals := 0 } : Room) s m ([.ref (az 0)] : List Value).toArray below meth c H locs 0 0 (MQ below (va_Qi (po_Z_codeOfStart q az th n k kn bk sz fd ln fm fw sb gb sa) (wz_At D q A) A) ([.ref (az 0)] : List Value).toArray s 0 0 A) (F0 m 4 ls []) := by
    intro d
    induction d with
    | zero =>
      intro i hi hd
      omega
    | succ d ih =>
      intro i hi hd H locs ls hP hD hS hl
      refine lv_iload_n hx hb d_Z_codeOfStart_4 rfl (lv_at hl 2 rfl) ?_
      refine lv_aload_n hx hb d_Z_codeOfStart_5 rfl (lv_at hl 0 rfl) ?_
      refine wz_get (v := .int (nI n)) (T := T_Z) (N := 22) hx hb hts i_Z hown hK hP 0 0 rfl rfl rfl 1 (by decide) (hts _ kw_466) rfl rfl d_Z_codeOfStart_6 ?_
      refine wz_ge (tgt := 31) hx hb d_Z_codeOfStart_9 (by decide) (by omega) (by omega) (fun hc => ?_) (fun hc => ?_)
      · skip
        have hin : i = n := by omega
        subst hin
        refine lv_iload_n hx hb d_Z_codeOfStart_31 rfl (lv_at hl 1 rfl) ?_
        exact wz_iret hx hb hr hlocks hK hP hD hS d_Z_codeOfStart_32 ⟨rfl, by rw [zs_mk_all hs.1]⟩
      · skip
        refine lv_iload_n hx hb d_Z_codeOfStart_12 rfl (lv_at hl 1 rfl) ?_
        refine lv_aload_n hx hb d_Z_codeOfStart_13 rfl (lv_at hl 0 rfl) ?_
        refine wz_get (v := .ref (az 3)) (T := T_Z) (N := 22) hx hb hts i_Z hown hK hP 0 0 rfl rfl rfl 5 (by decide) (hts _ kw_470) rfl rfl d_Z_codeOfStart_14 ?_
        refine lv_iload_n hx hb d_Z_codeOfStart_17 rfl (lv_at hl 2 rfl) ?_
        refine wz_iald hx hb hK hP 1 0 (j := i) rfl rfl (by omega) (by decide) d_Z_codeOfStart_18 ?_
        refine wz_topi (y := nI (pz_dg sa i)) (hs.2 i hc) ?_
        refine lv_iconst (v := nI 3) hx hb d_Z_codeOfStart_19 (by decide) ?_
        refine lv_iload_n hx hb d_Z_codeOfStart_20 rfl (lv_at hl 2 rfl) ?_
        refine lv_imul hx hb d_Z_codeOfStart_21 ?_
        refine wz_topi (y := nI (3 * i)) (pk_mul 3 i) ?_
        refine lv_ishl hx hb d_Z_codeOfStart_22 ?_
        refine wz_topi (y := nI (pz_dg sa i * 8 ^ i)) (pz_shl (pz_dg_lt _ _) (by omega)) ?_
        refine lv_ior hx hb d_Z_codeOfStart_23 ?_
        refine wz_topi (y := nI (pz_mk (pz_dg sa) (i + 1))) ((pz_nI_or _ _).trans (congrArg nI zs_mk_or)) ?_
        refine lv_istore_n (lv' := [(1, .int (nI (pz_mk (pz_dg sa) (i + 1)))), (0, .ref (az 0)), (2, .int (nI i))]) hx hb d_Z_codeOfStart_24 rfl hl (by decide) rfl (fun ls hl => ?_)
        refine lv_iinc (v := nI (i + 1)) (lv' := [(2, .int (nI (i + 1))), (1, .int (nI (pz_mk (pz_dg sa) (i + 1)))), (0, .ref (az 0))]) hx hb d_Z_codeOfStart_25 hl (k := 2) rfl (nI_1 i) (by decide) rfl (fun ls hl => ?_)
        refine lv_goto (tgt := 4) hx hb d_Z_codeOfStart_28 (by decide) ?_
        exact ih (i + 1) (by omega) (by omega) _ _ _ hP hD hS (lv_sub hl [2, 1, 0] rfl)
  exact loop (n + 1) 0 (by omega) (by omega) _ _ _ hP hD hS (lv_sub hl [2, 1, 0] rfl)
def po_Z_codeOfGoal (q : wz_Q) (az : Nat → Nat) (th : Int32) (n k : Nat) (kn bk : Int32) (sz : Nat) (fd : Int32) (ln : Nat) (fm : Int32) (fw : Int64) (sb gb : Nat → Int32) (sa : Nat) : Int32 → wz_G → Prop := fun v w => w = [zo_W q az th n k kn bk sz fd ln fm fw, zs_W q az sb gb] ∧ v = nI sa
set_option maxHeartbeats 4000000 in
set_option maxRecDepth 100000 in
/-- the state as a number -/
theorem c_Z_codeOfGoal (l : Launch) (D : va_G) (q : wz_Q) (az : Nat → Nat) (th : Int32) (n k : Nat) (kn bk : Int32) (sz : Nat) (fd : Int32) (ln : Nat) (fm : Int32) (fw : Int64) (sb gb : Nat → Int32) (sa : Nat) (hn : n ≤ 8) (hs : zs_ok n gb sa) : wz_Mi l y_Z_codeOfGoal ws_Z_codeOfGoal ({ frames := 0, cells := 0, slots := 0, locals := 0 } : Room) D q ([.ref (az 0)] : List Value) [zo_W q az th n k kn bk sz fd ln fm fw, zs_W q az sb gb] (po_Z_codeOfGoal q az th n k kn bk sz fd ln fm fw sb gb sa) 0 0 := by
  intro sz9
  refine wz_enter (cc := b_Z_codeOfGoal) (maxL := 3) (ret := (some .int)) (Qc := fun A => (va_Qi (po_Z_codeOfGoal q az th n k kn bk sz fd ln fm fw sb gb sa) (wz_At D q A) A)) (by decide) (Nat.le_of_ble_eq_true rfl) ?_
  intro p e s m below meth c A ls C hP hD hS hl
  obtain ⟨hx, hb, hr, hml, hlocks, hown, hts, hN, hK, hA, hnm⟩ := C
  have hown : s.vm.findClass "TwoEndSearchModel" = some m.cls := hown
  have hl : lv_has ls 3 [(0, .ref (az 0))] := hl
  refine lv_iconst (v := nI 0) hx hb d_Z_codeOfGoal_0 (by decide) ?_
  refine lv_istore_n (lv' := [(1, .int (nI 0)), (0, .ref (az 0))]) hx hb d_Z_codeOfGoal_1 rfl hl (by decide) rfl (fun ls hl => ?_)
  refine lv_iconst (v := nI 0) hx hb d_Z_codeOfGoal_2 (by decide) ?_
  refine lv_istore_n (lv' := [(2, .int (nI 0)), (1, .int (nI 0)), (0, .ref (az 0))]) hx hb d_Z_codeOfGoal_3 rfl hl (by decide) rfl (fun ls hl => ?_)
  have loop : ∀ (d : Nat) (i : Nat), i ≤ n → n + 1 ≤ i + d → ∀ (H : Heap) (locs : List Loc) (ls : Array Slot), va_P D vwCl ([zo_W q az th n k kn bk sz fd ln fm fw, zs_W q az sb gb] : wz_G).flatten H → va_D A ([zo_W q az th n k kn bk sz fd ln fm fw, zs_W q az sb gb] : wz_G).flatten → va_S A s.heap H locs → lv_has ls 3 [(0, .ref (az 0)), (1, .int (nI (pz_mk (pz_dg sa) i))), (2, .int (nI i))] → W p l e ({ frames := 0, cells := 0, slots := 0, locals := 0 } : Room) s m ([.ref (az 0)] : List Value).toArray below meth c H locs 0 0 (MQ below (va_Qi (po_Z_codeOfGoal q az th n k kn bk sz fd ln fm fw sb gb sa) (wz_At D q A) A) ([.ref (az 0)] : List Value).toArray s 0 0 A) (F0 m 4 ls []) := by
    intro d
    induction d with
    | zero =>
      intro i hi hd
      omega
    | succ d ih =>
      intro i hi hd H locs ls hP hD hS hl
      refine lv_iload_n hx hb d_Z_codeOfGoal_4 rfl (lv_at hl 2 rfl) ?_
      refine lv_aload_n hx hb d_Z_codeOfGoal_5 rfl (lv_at hl 0 rfl) ?_
      refine wz_get (v := .int (nI n)) (T := T_Z) (N := 22) hx hb hts i_Z hown hK hP 0 0 rfl rfl rfl 1 (by decide) (hts _ kw_466) rfl rfl d_Z_codeOfGoal_6 ?_
      refine wz_ge (tgt := 31) hx hb d_Z_codeOfGoal_9 (by decide) (by omega) (by omega) (fun hc => ?_) (fun hc => ?_)
      · skip
        have hin : i = n := by omega
        subst hin
        refine lv_iload_n hx hb d_Z_codeOfGoal_31 rfl (lv_at hl 1 rfl) ?_
        exact wz_iret hx hb hr hlocks hK hP hD hS d_Z_codeOfGoal_32 ⟨rfl, by rw [zs_mk_all hs.1]⟩
      · skip
        refine lv_iload_n hx hb d_Z_codeOfGoal_12 rfl (lv_at hl 1 rfl) ?_
        refine lv_aload_n hx hb d_Z_codeOfGoal_13 rfl (lv_at hl 0 rfl) ?_
        refine wz_get (v := .ref (az 4)) (T := T_Z) (N := 22) hx hb hts i_Z hown hK hP 0 0 rfl rfl rfl 6 (by decide) (hts _ kw_471) rfl rfl d_Z_codeOfGoal_14 ?_
        refine lv_iload_n hx hb d_Z_codeOfGoal_17 rfl (lv_at hl 2 rfl) ?_
        refine wz_iald hx hb hK hP 1 1 (j := i) rfl rfl (by omega) (by decide) d_Z_codeOfGoal_18 ?_
        refine wz_topi (y := nI (pz_dg sa i)) (hs.2 i hc) ?_
        refine lv_iconst (v := nI 3) hx hb d_Z_codeOfGoal_19 (by decide) ?_
        refine lv_iload_n hx hb d_Z_codeOfGoal_20 rfl (lv_at hl 2 rfl) ?_
        refine lv_imul hx hb d_Z_codeOfGoal_21 ?_
        refine wz_topi (y := nI (3 * i)) (pk_mul 3 i) ?_
        refine lv_ishl hx hb d_Z_codeOfGoal_22 ?_
        refine wz_topi (y := nI (pz_dg sa i * 8 ^ i)) (pz_shl (pz_dg_lt _ _) (by omega)) ?_
        refine lv_ior hx hb d_Z_codeOfGoal_23 ?_
        refine wz_topi (y := nI (pz_mk (pz_dg sa) (i + 1))) ((pz_nI_or _ _).trans (congrArg nI zs_mk_or)) ?_
        refine lv_istore_n (lv' := [(1, .int (nI (pz_mk (pz_dg sa) (i + 1)))), (0, .ref (az 0)), (2, .int (nI i))]) hx hb d_Z_codeOfGoal_24 rfl hl (by decide) rfl (fun ls hl => ?_)
        refine lv_iinc (v := nI (i + 1)) (lv' := [(2, .int (nI (i + 1))), (1, .int (nI (pz_mk (pz_dg sa) (i + 1)))), (0, .ref (az 0))]) hx hb d_Z_codeOfGoal_25 hl (k := 2) rfl (nI_1 i) (by decide) rfl (fun ls hl => ?_)
        refine lv_goto (tgt := 4) hx hb d_Z_codeOfGoal_28 (by decide) ?_
        exact ih (i + 1) (by omega) (by omega) _ _ _ hP hD hS (lv_sub hl [2, 1, 0] rfl)
  exact loop (n + 1) 0 (by omega) (by omega) _ _ _ hP hD hS (lv_sub hl [2, 1, 0] rfl)
def po_Z_done0 (q : wz_Q) (az : Nat → Nat) (th : Int32) (n k : Nat) (kn bk : Int32) (sz : Nat) (fd : Int32) (ln : Nat) (fm : Int32) (fw : Int64) (to fo : Nat → Int32) (cd o : Nat) (sg tu : Nat → Nat) : Int32 → wz_G → Prop := fun v w => w = [zo_W q az th n k kn bk sz fd ln fm fw, zt_W q az to fo] ∧ v = nI (pz_act n tu cd)
set_option maxHeartbeats 4000000 in
set_option maxRecDepth 100000 in
/-- a state with a move done or undone -/
theorem c_Z_done0 (l : Launch) (D : va_G) (q : wz_Q) (az : Nat → Nat) (th : Int32) (n k : Nat) (kn bk : Int32) (sz : Nat) (fd : Int32) (ln : Nat) (fm : Int32) (fw : Int64) (to fo : Nat → Int32) (cd o : Nat) (sg tu : Nat → Nat) (hn : n ≤ 8) (ho : o < 6) (hcd : cd < 8 ^ n) (hs : ∀ p, p < n → to (8 * o + p) = nI (sg p)) (hpm : pz_perm n sg tu) : wz_Mi l y_Z_done ws_Z_done ({ frames := 0, cells := 0, slots := 0, locals := 0 } : Room) D q ([.ref (az 0), .int (nI cd), .int (nI o), .int (nI 0)] : List Value) [zo_W q az th n k kn bk sz fd ln fm fw, zt_W q az to fo] (po_Z_done0 q az th n k kn bk sz fd ln fm fw to fo cd o sg tu) 0 0 := by
  intro sz9
  refine wz_enter (cc := b_Z_done) (maxL := 7) (ret := (some .int)) (Qc := fun A => (va_Qi (po_Z_done0 q az th n k kn bk sz fd ln fm fw to fo cd o sg tu) (wz_At D q A) A)) (by decide) (Nat.le_of_ble_eq_true rfl) ?_
  intro p e s m below meth c A ls C hP hD hS hl
  obtain ⟨hx, hb, hr, hml, hlocks, hown, hts, hN, hK, hA, hnm⟩ := C
  have hown : s.vm.findClass "TwoEndSearchModel" = some m.cls := hown
  have hl : lv_has ls 7 [(0, .ref (az 0)), (1, .int (nI cd)), (2, .int (nI o)), (3, .int (nI 0))] := hl
  have hc24 := pz_lt31 hn hcd
  refine lv_iconst (v := nI 0) hx hb d_Z_done_0 (by decide) ?_
  refine lv_istore (lv' := [(4, .int (nI 0)), (0, .ref (az 0)), (1, .int (nI cd)), (2, .int (nI o)), (3, .int (nI 0))]) hx hb d_Z_done_1 hl (by decide) rfl (fun ls hl => ?_)
  refine lv_iconst (v := nI 0) hx hb d_Z_done_3 (by decide) ?_
  refine lv_istore (lv' := [(5, .int (nI 0)), (4, .int (nI 0)), (0, .ref (az 0)), (1, .int (nI cd)), (2, .int (nI o)), (3, .int (nI 0))]) hx hb d_Z_done_4 hl (by decide) rfl (fun ls hl => ?_)
  have loop : ∀ (d : Nat) (i B : Nat), i ≤ n → n + 1 ≤ i + d → mv_br n cd i tu B → ∀ (H : Heap) (locs : List Loc) (ls : Array Slot), va_P D vwCl ([zo_W q az th n k kn bk sz fd ln fm fw, zt_W q az to fo] : wz_G).flatten H → va_D A ([zo_W q az th n k kn bk sz fd ln fm fw, zt_W q az to fo] : wz_G).flatten → va_S A s.heap H locs → lv_has ls 7 [(0, .ref (az 0)), (1, .int (nI cd)), (2, .int (nI o)), (3, .int (nI 0)), (4, .int (nI B)), (5, .int (nI i))] → W p l e ({ frames := 0, cells := 0, slots := 0, locals := 0 } : Room) s m ([.ref (az 0), .int (nI cd), .int (nI o), .int (nI 0)] : List Value).toArray below meth c H locs 0 0 (MQ below (va_Qi (po_Z_done0 q az th n k kn bk sz fd ln fm fw to fo cd o sg tu) (wz_At D q A) A) ([.ref (az 0), .int (nI cd), .int (nI o), .int (nI 0)] : List Value).toArray s 0 0 A) (F0 m 6 ls []) := by
    intro d
    induction d with
    | zero =>
      intro i B hi hd hB
      omega
    | succ d ih =>
      intro i B hi hd hB H locs ls hP hD hS hl
      refine lv_iload hx hb d_Z_done_6 (lv_at hl 5 rfl) ?_
      refine lv_aload_n hx hb d_Z_done_8 rfl (lv_at hl 0 rfl) ?_
      refine wz_get (v := .int (nI n)) (T := T_Z) (N := 22) hx hb hts i_Z hown hK hP 0 0 rfl rfl rfl 1 (by decide) (hts _ kw_466) rfl rfl d_Z_done_9 ?_
      refine wz_ge (tgt := 72) hx hb d_Z_done_12 (by decide) (by omega) (by omega) (fun hc => ?_) (fun hc => ?_)
      · skip
        have hin : i = n := by omega
        subst hin
        refine lv_iload hx hb d_Z_done_72 (lv_at hl 4 rfl) ?_
        exact wz_iret hx hb hr hlocks hK hP hD hS d_Z_done_74 ⟨rfl, by rw [mv_br_e hpm hB hcd]⟩
      · skip
        have hsl := (hpm i hc).1
        refine lv_aload_n hx hb d_Z_done_15 rfl (lv_at hl 0 rfl) ?_
        refine wz_get (v := .ref (az 1)) (T := T_Z) (N := 22) hx hb hts i_Z hown hK hP 0 0 rfl rfl rfl 3 (by decide) (hts _ kw_468) rfl rfl d_Z_done_16 ?_
        refine lv_bipush (v := nI 8) hx hb d_Z_done_19 (by decide) ?_
        refine lv_iload_n hx hb d_Z_done_21 rfl (lv_at hl 2 rfl) ?_
        refine lv_imul hx hb d_Z_done_22 ?_
        refine wz_topi (y := nI (8 * o)) (pk_mul 8 o) ?_
        refine lv_iload hx hb d_Z_done_23 (lv_at hl 5 rfl) ?_
        refine lv_iadd hx hb d_Z_done_25 ?_
        refine wz_topi (y := nI ((8 * o) + i)) (nI_add (8 * o) i) ?_
        refine wz_iald hx hb hK hP 1 0 (j := ((8 * o) + i)) rfl rfl (by omega) (by decide) d_Z_done_26 ?_
        refine wz_topi (y := nI (sg i)) (hs i hc) ?_
        refine lv_istore (lv' := [(6, .int (nI (sg i))), (0, .ref (az 0)), (1, .int (nI cd)), (2, .int (nI o)), (3, .int (nI 0)), (4, .int (nI B)), (5, .int (nI i))]) hx hb d_Z_done_27 hl (by decide) rfl (fun ls hl => ?_)
        refine lv_iload hx hb d_Z_done_29 (lv_at hl 5 rfl) ?_
        refine lv_iload_n hx hb d_Z_done_31 rfl (lv_at hl 2 rfl) ?_
        refine lv_iconst (v := nI 3) hx hb d_Z_done_32 (by decide) ?_
        refine lv_iload_n hx hb d_Z_done_33 rfl (lv_at hl 4 rfl) ?_
        refine lv_if_eq (tgt := 42) hx hb d_Z_done_34 (by decide) (fun hc2 => ?_) (fun hc2 => ?_)
        · skip
          refine lv_iload hx hb d_Z_done_42 (lv_at hl 6 rfl) ?_
          refine lv_imul hx hb d_Z_done_44 ?_
          refine wz_topi (y := nI (3 * i)) (pk_mul 3 i) ?_
          refine lv_ishr hx hb d_Z_done_45 ?_
          refine wz_topi (y := nI (cd / 8 ^ i)) (pz_shr (by omega) (by omega)) ?_
          refine lv_bipush (v := nI 7) hx hb d_Z_done_46 (by decide) ?_
          refine lv_iand hx hb d_Z_done_48 ?_
          refine wz_topi (y := nI (pz_dg cd i)) (pz_and7 (by have := pz_divlt hn hcd i; omega)) ?_
          refine lv_iconst (v := nI 3) hx hb d_Z_done_49 (by decide) ?_
          refine lv_iload_n hx hb d_Z_done_50 rfl (lv_at hl 4 rfl) ?_
          refine lv_if_eq (tgt := 59) hx hb d_Z_done_51 (by decide) (fun hc3 => ?_) (fun hc3 => ?_)
          · skip
            refine lv_iload hx hb d_Z_done_59 (lv_at hl 0 rfl) ?_
            refine lv_imul hx hb d_Z_done_61 ?_
            refine wz_topi (y := nI (3 * (sg i))) (pk_mul 3 (sg i)) ?_
            refine lv_ishl hx hb d_Z_done_62 ?_
            refine wz_topi (y := nI (pz_dg cd i * 8 ^ sg i)) (pz_shl (pz_dg_lt _ _) (by omega)) ?_
            refine lv_ior hx hb d_Z_done_63 ?_
            refine wz_topi (y := nI (B + pz_dg cd i * 8 ^ sg i)) (mv_or hpm hB hc) ?_
            refine lv_istore (lv' := [(4, .int (nI (B + pz_dg cd i * 8 ^ sg i))), (6, .int (nI (sg i))), (0, .ref (az 0)), (1, .int (nI cd)), (2, .int (nI o)), (3, .int (nI 0)), (5, .int (nI i))]) hx hb d_Z_done_64 hl (by decide) rfl (fun ls hl => ?_)
            refine lv_iinc (v := nI (i + 1)) (lv' := [(5, .int (nI (i + 1))), (4, .int (nI (B + pz_dg cd i * 8 ^ sg i))), (6, .int (nI (sg i))), (0, .ref (az 0)), (1, .int (nI cd)), (2, .int (nI o)), (3, .int (nI 0))]) hx hb d_Z_done_66 hl (k := 6) rfl (nI_1 i) (by decide) rfl (fun ls hl => ?_)
            refine lv_goto (tgt := 6) hx hb d_Z_done_69 (by decide) ?_
            exact ih (i + 1) (B + pz_dg cd i * 8 ^ sg i) (by omega) (by omega) (mv_br_s hpm hB hc) _ _ _ hP hD hS (lv_sub hl [3, 4, 5, 6, 1, 0] rfl)
          · skip
            exact absurd hc3 (by decide)
        · skip
          exact absurd hc2 (by decide)
  exact loop (n + 1) 0 0 (by omega) (by omega) (mv_br_0 n cd tu) _ _ _ hP hD hS (lv_sub hl [2, 3, 4, 5, 1, 0] rfl)
def po_Z_done1 (q : wz_Q) (az : Nat → Nat) (th : Int32) (n k : Nat) (kn bk : Int32) (sz : Nat) (fd : Int32) (ln : Nat) (fm : Int32) (fw : Int64) (to fo : Nat → Int32) (cd o : Nat) (sg tu : Nat → Nat) : Int32 → wz_G → Prop := fun v w => w = [zo_W q az th n k kn bk sz fd ln fm fw, zt_W q az to fo] ∧ v = nI (pz_act n sg cd)
set_option maxHeartbeats 4000000 in
set_option maxRecDepth 100000 in
/-- a state with a move done or undone -/
theorem c_Z_done1 (l : Launch) (D : va_G) (q : wz_Q) (az : Nat → Nat) (th : Int32) (n k : Nat) (kn bk : Int32) (sz : Nat) (fd : Int32) (ln : Nat) (fm : Int32) (fw : Int64) (to fo : Nat → Int32) (cd o : Nat) (sg tu : Nat → Nat) (hn : n ≤ 8) (ho : o < 6) (hcd : cd < 8 ^ n) (hs : ∀ p, p < n → to (8 * o + p) = nI (sg p)) (hpm : pz_perm n sg tu) : wz_Mi l y_Z_done ws_Z_done ({ frames := 0, cells := 0, slots := 0, locals := 0 } : Room) D q ([.ref (az 0), .int (nI cd), .int (nI o), .int (nI 1)] : List Value) [zo_W q az th n k kn bk sz fd ln fm fw, zt_W q az to fo] (po_Z_done1 q az th n k kn bk sz fd ln fm fw to fo cd o sg tu) 0 0 := by
  intro sz9
  refine wz_enter (cc := b_Z_done) (maxL := 7) (ret := (some .int)) (Qc := fun A => (va_Qi (po_Z_done1 q az th n k kn bk sz fd ln fm fw to fo cd o sg tu) (wz_At D q A) A)) (by decide) (Nat.le_of_ble_eq_true rfl) ?_
  intro p e s m below meth c A ls C hP hD hS hl
  obtain ⟨hx, hb, hr, hml, hlocks, hown, hts, hN, hK, hA, hnm⟩ := C
  have hown : s.vm.findClass "TwoEndSearchModel" = some m.cls := hown
  have hl : lv_has ls 7 [(0, .ref (az 0)), (1, .int (nI cd)), (2, .int (nI o)), (3, .int (nI 1))] := hl
  have hc24 := pz_lt31 hn hcd
  refine lv_iconst (v := nI 0) hx hb d_Z_done_0 (by decide) ?_
  refine lv_istore (lv' := [(4, .int (nI 0)), (0, .ref (az 0)), (1, .int (nI cd)), (2, .int (nI o)), (3, .int (nI 1))]) hx hb d_Z_done_1 hl (by decide) rfl (fun ls hl => ?_)
  refine lv_iconst (v := nI 0) hx hb d_Z_done_3 (by decide) ?_
  refine lv_istore (lv' := [(5, .int (nI 0)), (4, .int (nI 0)), (0, .ref (az 0)), (1, .int (nI cd)), (2, .int (nI o)), (3, .int (nI 1))]) hx hb d_Z_done_4 hl (by decide) rfl (fun ls hl => ?_)
  have loop : ∀ (d : Nat) (i B : Nat), i ≤ n → n + 1 ≤ i + d → zm_bb n cd i sg B → ∀ (H : Heap) (locs : List Loc) (ls : Array Slot), va_P D vwCl ([zo_W q az th n k kn bk sz fd ln fm fw, zt_W q az to fo] : wz_G).flatten H → va_D A ([zo_W q az th n k kn bk sz fd ln fm fw, zt_W q az to fo] : wz_G).flatten → va_S A s.heap H locs → lv_has ls 7 [(0, .ref (az 0)), (1, .int (nI cd)), (2, .int (nI o)), (3, .int (nI 1)), (4, .int (nI B)), (5, .int (nI i))] → W p l e ({ frames := 0, cells := 0, slots := 0, locals := 0 } : Room) s m ([.ref (az 0), .int (nI cd), .int (nI o), .int (nI 1)] : List Value).toArray below meth c H locs 0 0 (MQ below (va_Qi (po_Z_done1 q az th n k kn bk sz fd ln fm fw to fo cd o sg tu) (wz_At D q A) A) ([.ref (az 0), .int (nI cd), .int (nI o), .int (nI 1)] : List Value).toArray s 0 0 A) (F0 m 6 ls []) := by
    intro d
    induction d with
    | zero =>
      intro i B hi hd hB
      omega
    | succ d ih =>
      intro i B hi hd hB H locs ls hP hD hS hl
      refine lv_iload hx hb d_Z_done_6 (lv_at hl 5 rfl) ?_
      refine lv_aload_n hx hb d_Z_done_8 rfl (lv_at hl 0 rfl) ?_
      refine wz_get (v := .int (nI n)) (T := T_Z) (N := 22) hx hb hts i_Z hown hK hP 0 0 rfl rfl rfl 1 (by decide) (hts _ kw_466) rfl rfl d_Z_done_9 ?_
      refine wz_ge (tgt := 72) hx hb d_Z_done_12 (by decide) (by omega) (by omega) (fun hc => ?_) (fun hc => ?_)
      · skip
        have hin : i = n := by omega
        subst hin
        refine lv_iload hx hb d_Z_done_72 (lv_at hl 4 rfl) ?_
        exact wz_iret hx hb hr hlocks hK hP hD hS d_Z_done_74 ⟨rfl, by rw [zm_bb_e hB hcd]⟩
      · skip
        have hsl := (hpm i hc).1
        refine lv_aload_n hx hb d_Z_done_15 rfl (lv_at hl 0 rfl) ?_
        refine wz_get (v := .ref (az 1)) (T := T_Z) (N := 22) hx hb hts i_Z hown hK hP 0 0 rfl rfl rfl 3 (by decide) (hts _ kw_468) rfl rfl d_Z_done_16 ?_
        refine lv_bipush (v := nI 8) hx hb d_Z_done_19 (by decide) ?_
        refine lv_iload_n hx hb d_Z_done_21 rfl (lv_at hl 2 rfl) ?_
        refine lv_imul hx hb d_Z_done_22 ?_
        refine wz_topi (y := nI (8 * o)) (pk_mul 8 o) ?_
        refine lv_iload hx hb d_Z_done_23 (lv_at hl 5 rfl) ?_
        refine lv_iadd hx hb d_Z_done_25 ?_
        refine wz_topi (y := nI ((8 * o) + i)) (nI_add (8 * o) i) ?_
        refine wz_iald hx hb hK hP 1 0 (j := ((8 * o) + i)) rfl rfl (by omega) (by decide) d_Z_done_26 ?_
        refine wz_topi (y := nI (sg i)) (hs i hc) ?_
        refine lv_istore (lv' := [(6, .int (nI (sg i))), (0, .ref (az 0)), (1, .int (nI cd)), (2, .int (nI o)), (3, .int (nI 1)), (4, .int (nI B)), (5, .int (nI i))]) hx hb d_Z_done_27 hl (by decide) rfl (fun ls hl => ?_)
        refine lv_iload hx hb d_Z_done_29 (lv_at hl 5 rfl) ?_
        refine lv_iload_n hx hb d_Z_done_31 rfl (lv_at hl 2 rfl) ?_
        refine lv_iconst (v := nI 3) hx hb d_Z_done_32 (by decide) ?_
        refine lv_iload_n hx hb d_Z_done_33 rfl (lv_at hl 4 rfl) ?_
        refine lv_if_eq (tgt := 42) hx hb d_Z_done_34 (by decide) (fun hc2 => ?_) (fun hc2 => ?_)
        · skip
          exact absurd hc2 (by decide)
        · skip
          refine lv_iload hx hb d_Z_done_37 (lv_at hl 0 rfl) ?_
          refine lv_goto (tgt := 44) hx hb d_Z_done_39 (by decide) ?_
          refine lv_imul hx hb d_Z_done_44 ?_
          refine wz_topi (y := nI (3 * (sg i))) (pk_mul 3 (sg i)) ?_
          refine lv_ishr hx hb d_Z_done_45 ?_
          refine wz_topi (y := nI (cd / 8 ^ sg i)) (pz_shr (by omega) (by omega)) ?_
          refine lv_bipush (v := nI 7) hx hb d_Z_done_46 (by decide) ?_
          refine lv_iand hx hb d_Z_done_48 ?_
          refine wz_topi (y := nI (pz_dg cd (sg i))) (pz_and7 (by have := pz_divlt hn hcd (sg i); omega)) ?_
          refine lv_iconst (v := nI 3) hx hb d_Z_done_49 (by decide) ?_
          refine lv_iload_n hx hb d_Z_done_50 rfl (lv_at hl 4 rfl) ?_
          refine lv_if_eq (tgt := 59) hx hb d_Z_done_51 (by decide) (fun hc3 => ?_) (fun hc3 => ?_)
          · skip
            exact absurd hc3 (by decide)
          · skip
            refine lv_iload hx hb d_Z_done_54 (lv_at hl 6 rfl) ?_
            refine lv_goto (tgt := 61) hx hb d_Z_done_56 (by decide) ?_
            refine lv_imul hx hb d_Z_done_61 ?_
            refine wz_topi (y := nI (3 * i)) (pk_mul 3 i) ?_
            refine lv_ishl hx hb d_Z_done_62 ?_
            refine wz_topi (y := nI (pz_dg cd (sg i) * 8 ^ i)) (pz_shl (pz_dg_lt _ _) (by omega)) ?_
            refine lv_ior hx hb d_Z_done_63 ?_
            refine wz_topi (y := nI (B + pz_dg cd (sg i) * 8 ^ i)) (zm_or hB hc) ?_
            refine lv_istore (lv' := [(4, .int (nI (B + pz_dg cd (sg i) * 8 ^ i))), (6, .int (nI (sg i))), (0, .ref (az 0)), (1, .int (nI cd)), (2, .int (nI o)), (3, .int (nI 1)), (5, .int (nI i))]) hx hb d_Z_done_64 hl (by decide) rfl (fun ls hl => ?_)
            refine lv_iinc (v := nI (i + 1)) (lv' := [(5, .int (nI (i + 1))), (4, .int (nI (B + pz_dg cd (sg i) * 8 ^ i))), (6, .int (nI (sg i))), (0, .ref (az 0)), (1, .int (nI cd)), (2, .int (nI o)), (3, .int (nI 1))]) hx hb d_Z_done_66 hl (k := 6) rfl (nI_1 i) (by decide) rfl (fun ls hl => ?_)
            refine lv_goto (tgt := 6) hx hb d_Z_done_69 (by decide) ?_
            exact ih (i + 1) (B + pz_dg cd (sg i) * 8 ^ i) (by omega) (by omega) (zm_bb_s hB hc) _ _ _ hP hD hS (lv_sub hl [3, 4, 5, 6, 1, 0] rfl)
  exact loop (n + 1) 0 0 (by omega) (by omega) (zm_bb_0 n cd sg) _ _ _ hP hD hS (lv_sub hl [2, 3, 4, 5, 1, 0] rfl)
def po_Z_seatOf (q : wz_Q) (az : Nat → Nat) (th : Int32) (n k : Nat) (kn bk : Int32) (sz : Nat) (fd : Int32) (ln : Nat) (fm : Int32) (fw : Int64) (st sp : Nat → Int32) (wy : Nat → Int64) (se : Nat → Int32) (Q : List Nat) (sf : Nat → Nat) (cd : Nat) : Int32 → wz_G → Prop := fun v w => w = [zo_W q az th n k kn bk sz fd ln fm fw, zb_W q az st sp wy se] ∧ ∃ j, j < 65536 ∧ v = nI ((zh_hh cd + j) % 65536) ∧ pz_stop 65536 zh_hh Q sf cd j ∧ ∀ i, i < j → ¬ pz_stop 65536 zh_hh Q sf cd i
set_option maxHeartbeats 4000000 in
set_option maxRecDepth 100000 in
/-- the seat that has a state, or the free one -/
theorem c_Z_seatOf (l : Launch) (D : va_G) (q : wz_Q) (az : Nat → Nat) (th : Int32) (n k : Nat) (kn bk : Int32) (sz : Nat) (fd : Int32) (ln : Nat) (fm : Int32) (fw : Int64) (st sp : Nat → Int32) (wy : Nat → Int64) (se : Nat → Int32) (Q : List Nat) (sf : Nat → Nat) (cd : Nat) (hst : ∀ i x, Q[i]? = some x → st i = nI x) (hse : ∀ j, j < 65536 → se j = nI (sf j)) (ht : pz_ht 65536 zh_hh Q sf) (hQn : Q.length ≤ 40320) (hcd : cd < 2 ^ 24) (hx24 : ∀ x, x ∈ Q → x < 2 ^ 24) : wz_Mi l y_Z_seatOf ws_Z_seatOf ({ frames := 0, cells := 0, slots := 0, locals := 0 } : Room) D q ([.ref (az 0), .int (nI cd)] : List Value) [zo_W q az th n k kn bk sz fd ln fm fw, zb_W q az st sp wy se] (po_Z_seatOf q az th n k kn bk sz fd ln fm fw st sp wy se Q sf cd) 0 0 := by
  intro sz9
  refine wz_enter (cc := b_Z_seatOf) (maxL := 3) (ret := (some .int)) (Qc := fun A => (va_Qi (po_Z_seatOf q az th n k kn bk sz fd ln fm fw st sp wy se Q sf cd) (wz_At D q A) A)) (by decide) (Nat.le_of_ble_eq_true rfl) ?_
  intro p e s m below meth c A ls C hP hD hS hl
  obtain ⟨hx, hb, hr, hml, hlocks, hown, hts, hN, hK, hA, hnm⟩ := C
  have hown : s.vm.findClass "TwoEndSearchModel" = some m.cls := hown
  have hl : lv_has ls 3 [(0, .ref (az 0)), (1, .int (nI cd))] := hl
  obtain ⟨j0, hj0, hst0⟩ := pz_ht_stop ht (by omega) (zh_lt cd) (x := cd)
  refine lv_iload_n hx hb d_Z_seatOf_0 rfl (lv_at hl 1 rfl) ?_
  refine lv_ldc (v := nI 40503) hx hb hown (hts _ kw_590) d_Z_seatOf_1 ?_
  refine lv_imul hx hb d_Z_seatOf_3 ?_
  refine wz_topi (y := nI cd * nI 40503) rfl ?_
  refine lv_bipush (v := nI 7) hx hb d_Z_seatOf_4 (by decide) ?_
  refine lv_iushr (v := nI ((nI cd * nI 40503).toBitVec.toNat / 2 ^ 7)) hx hb d_Z_seatOf_6 (zh_ush cd) ?_
  refine lv_ldc (v := nI 65536) hx hb hown (hts _ kw_456) d_Z_seatOf_7 ?_
  refine lv_irem hx hb d_Z_seatOf_9 (by decide) ?_
  refine wz_topi (y := nI ((zh_hh cd + 0) % 65536)) (zh_rem cd) ?_
  refine lv_istore_n (lv' := [(2, .int (nI ((zh_hh cd + 0) % 65536))), (0, .ref (az 0)), (1, .int (nI cd))]) hx hb d_Z_seatOf_10 rfl hl (by decide) rfl (fun ls hl => ?_)
  have loop : ∀ (d : Nat) (j : Nat), j ≤ j0 → j0 + 1 ≤ j + d → (∀ i, i < j → ¬ pz_stop 65536 zh_hh Q sf cd i) → ∀ (H : Heap) (locs : List Loc) (ls : Array Slot), va_P D vwCl ([zo_W q az th n k kn bk sz fd ln fm fw, zb_W q az st sp wy se] : wz_G).flatten H → va_D A ([zo_W q az th n k kn bk sz fd ln fm fw, zb_W q az st sp wy se] : wz_G).flatten → va_S A s.heap H locs → lv_has ls 3 [(0, .ref (az 0)), (1, .int (nI cd)), (2, .int (nI ((zh_hh cd + j) % 65536)))] → W p l e ({ frames := 0, cells := 0, slots := 0, locals := 0 } : Room) s m ([.ref (az 0), .int (nI cd)] : List Value).toArray below meth c H locs 0 0 (MQ below (va_Qi (po_Z_seatOf q az th n k kn bk sz fd ln fm fw st sp wy se Q sf cd) (wz_At D q A) A) ([.ref (az 0), .int (nI cd)] : List Value).toArray s 0 0 A) (F0 m 11 ls []) := by
    intro d
    induction d with
    | zero =>
      intro j hj hd hno
      omega
    | succ d ih =>
      intro j hj hd hno H locs ls hP hD hS hl
      have hk : ((zh_hh cd + j) % 65536) < 65536 := Nat.mod_lt _ (by decide)
      have hv : sf ((zh_hh cd + j) % 65536) ≤ Q.length := by
        by_cases e0 : sf ((zh_hh cd + j) % 65536) = 0
        · omega
        · obtain ⟨x, hx9⟩ := ht.1 _ hk e0
          have := (List.getElem?_eq_some_iff.mp hx9).1
          omega
      refine lv_aload_n hx hb d_Z_seatOf_11 rfl (lv_at hl 0 rfl) ?_
      refine wz_get (v := .ref (az 8)) (T := T_Z) (N := 22) hx hb hts i_Z hown hK hP 0 0 rfl rfl rfl 13 (by decide) (hts _ kw_478) rfl rfl d_Z_seatOf_12 ?_
      refine lv_iload_n hx hb d_Z_seatOf_15 rfl (lv_at hl 2 rfl) ?_
      refine wz_iald hx hb hK hP 1 3 (j := ((zh_hh cd + j) % 65536)) rfl rfl (by omega) (by decide) d_Z_seatOf_16 ?_
      refine wz_topi (y := nI (sf ((zh_hh cd + j) % 65536))) (hse _ hk) ?_
      refine lv_if_eq (tgt := 47) hx hb d_Z_seatOf_17 (by decide) (fun hc => ?_) (fun hc => ?_)
      · skip
        refine lv_iload_n hx hb d_Z_seatOf_47 rfl (lv_at hl 2 rfl) ?_
        exact wz_iret hx hb hr hlocks hK hP hD hS d_Z_seatOf_48 ⟨rfl, j, by omega, rfl, Or.inl ((nI_eq (by omega) (by omega)).mp (hc.trans nI_0.symm)), hno⟩
      · skip
        have hne : sf ((zh_hh cd + j) % 65536) ≠ 0 := fun e0 => hc (by rw [e0]; rfl)
        obtain ⟨x, hgx⟩ := ht.1 _ hk hne
        have hxl := (List.getElem?_eq_some_iff.mp hgx).1
        have hx2 := hx24 x (List.mem_of_getElem? hgx)
        refine lv_aload_n hx hb d_Z_seatOf_20 rfl (lv_at hl 0 rfl) ?_
        refine wz_get (v := .ref (az 5)) (T := T_Z) (N := 22) hx hb hts i_Z hown hK hP 0 0 rfl rfl rfl 10 (by decide) (hts _ kw_475) rfl rfl d_Z_seatOf_21 ?_
        refine lv_aload_n hx hb d_Z_seatOf_24 rfl (lv_at hl 0 rfl) ?_
        refine wz_get (v := .ref (az 8)) (T := T_Z) (N := 22) hx hb hts i_Z hown hK hP 0 0 rfl rfl rfl 13 (by decide) (hts _ kw_478) rfl rfl d_Z_seatOf_25 ?_
        refine lv_iload_n hx hb d_Z_seatOf_28 rfl (lv_at hl 2 rfl) ?_
        refine wz_iald hx hb hK hP 1 3 (j := ((zh_hh cd + j) % 65536)) rfl rfl (by omega) (by decide) d_Z_seatOf_29 ?_
        refine wz_topi (y := nI (sf ((zh_hh cd + j) % 65536))) (hse _ hk) ?_
        refine lv_iconst (v := nI 1) hx hb d_Z_seatOf_30 (by decide) ?_
        refine lv_isub hx hb d_Z_seatOf_31 ?_
        refine wz_topi (y := nI (sf ((zh_hh cd + j) % 65536) - 1)) (pk_sub (by omega)) ?_
        refine wz_iald hx hb hK hP 1 0 (j := (sf ((zh_hh cd + j) % 65536) - 1)) rfl rfl (by omega) (by decide) d_Z_seatOf_32 ?_
        refine wz_topi (y := nI x) (hst _ x hgx) ?_
        refine lv_iload_n hx hb d_Z_seatOf_33 rfl (lv_at hl 1 rfl) ?_
        refine wz_eq (tgt := 47) hx hb d_Z_seatOf_34 (by decide) (by omega) (by omega) (fun hc3 => ?_) (fun hc3 => ?_)
        · skip
          refine lv_iload_n hx hb d_Z_seatOf_47 rfl (lv_at hl 2 rfl) ?_
          exact wz_iret hx hb hr hlocks hK hP hD hS d_Z_seatOf_48 ⟨rfl, j, by omega, rfl, Or.inr (hgx.trans (congrArg some hc3)), hno⟩
        · skip
          have hno' : ∀ i, i < j + 1 → ¬ pz_stop 65536 zh_hh Q sf cd i := by
            intro i hi hs
            by_cases e0 : i = j
            · subst e0
              rcases hs with q | q
              · exact hne q
              · exact hc3 (Option.some.inj (hgx.symm.trans q))
            · exact hno i (by omega) hs
          have hjl : j < j0 := by
            by_cases e0 : j = j0
            · subst e0; exact absurd hst0 (hno' j (by omega))
            · omega
          refine lv_iload_n hx hb d_Z_seatOf_37 rfl (lv_at hl 2 rfl) ?_
          refine lv_iconst (v := nI 1) hx hb d_Z_seatOf_38 (by decide) ?_
          refine lv_iadd hx hb d_Z_seatOf_39 ?_
          refine wz_topi (y := nI (((zh_hh cd + j) % 65536) + 1)) (nI_add ((zh_hh cd + j) % 65536) 1) ?_
          refine lv_ldc (v := nI 65536) hx hb hown (hts _ kw_456) d_Z_seatOf_40 ?_
          refine lv_irem hx hb d_Z_seatOf_42 (by decide) ?_
          refine wz_topi (y := nI ((zh_hh cd + (j + 1)) % 65536)) (zh_next _ j) ?_
          refine lv_istore_n (lv' := [(2, .int (nI ((zh_hh cd + (j + 1)) % 65536))), (0, .ref (az 0)), (1, .int (nI cd))]) hx hb d_Z_seatOf_43 rfl hl (by decide) rfl (fun ls hl => ?_)
          refine lv_goto (tgt := 11) hx hb d_Z_seatOf_44 (by decide) ?_
          exact ih (j + 1) (by omega) (by omega) hno' _ _ _ hP hD hS (lv_sub hl [1, 2, 0] rfl)
  exact loop (j0 + 1) 0 (by omega) (by omega) (fun i h0 => absurd h0 (by omega)) _ _ _ hP hD hS (lv_sub hl [1, 2, 0] rfl)
def po_Z_numberOf (q : wz_Q) (az : Nat → Nat) (th : Int32) (n k : Nat) (kn bk : Int32) (sz : Nat) (fd : Int32) (ln : Nat) (fm : Int32) (fw : Int64) (st sp : Nat → Int32) (wy : Nat → Int64) (se : Nat → Int32) (Q : List Nat) (sf : Nat → Nat) (cd : Nat) : Int32 → wz_G → Prop := fun v w => w = [zo_W q az th n k kn bk sz fd ln fm fw, zb_W q az st sp wy se] ∧ ((∃ j, Q[j]? = some cd ∧ v = nI j) ∨ (cd ∉ Q ∧ v = -1))
set_option maxHeartbeats 4000000 in
set_option maxRecDepth 100000 in
/-- a state's number, or -1 -/
theorem c_Z_numberOf (l : Launch) (D : va_G) (q : wz_Q) (az : Nat → Nat) (th : Int32) (n k : Nat) (kn bk : Int32) (sz : Nat) (fd : Int32) (ln : Nat) (fm : Int32) (fw : Int64) (st sp : Nat → Int32) (wy : Nat → Int64) (se : Nat → Int32) (Q : List Nat) (sf : Nat → Nat) (cd : Nat) (hst : ∀ i x, Q[i]? = some x → st i = nI x) (hse : ∀ j, j < 65536 → se j = nI (sf j)) (ht : pz_ht 65536 zh_hh Q sf) (hQn : Q.length ≤ 40320) (hcd : cd < 2 ^ 24) (hx24 : ∀ x, x ∈ Q → x < 2 ^ 24) (hnd : Q.Nodup) : wz_Mi l y_Z_numberOf ws_Z_numberOf ({ frames := 1, cells := 0, slots := 0, locals := 22 } : Room) D q ([.ref (az 0), .int (nI cd)] : List Value) [zo_W q az th n k kn bk sz fd ln fm fw, zb_W q az st sp wy se] (po_Z_numberOf q az th n k kn bk sz fd ln fm fw st sp wy se Q sf cd) 0 0 := by
  intro sz9
  refine wz_enter (cc := b_Z_numberOf) (maxL := 2) (ret := (some .int)) (Qc := fun A => (va_Qi (po_Z_numberOf q az th n k kn bk sz fd ln fm fw st sp wy se Q sf cd) (wz_At D q A) A)) (by decide) (Nat.le_of_ble_eq_true rfl) ?_
  intro p e s m below meth c A ls C hP hD hS hl
  obtain ⟨hx, hb, hr, hml, hlocks, hown, hts, hN, hK, hA, hnm⟩ := C
  have hown : s.vm.findClass "TwoEndSearchModel" = some m.cls := hown
  have hl : lv_has ls 2 [(0, .ref (az 0)), (1, .int (nI cd))] := hl
  refine lv_aload_n hx hb d_Z_numberOf_0 rfl (lv_at hl 0 rfl) ?_
  refine wz_get (v := .ref (az 8)) (T := T_Z) (N := 22) hx hb hts i_Z hown hK hP 0 0 rfl rfl rfl 13 (by decide) (hts _ kw_478) rfl rfl d_Z_numberOf_1 ?_
  refine lv_aload_n hx hb d_Z_numberOf_4 rfl (lv_at hl 0 rfl) ?_
  refine lv_iload_n hx hb d_Z_numberOf_5 rfl (lv_at hl 1 rfl) ?_
  have hQ := wz_split (n := 2) (gc := [zo_W q az th n k kn bk sz fd ln fm fw, zb_W q az st sp wy se]) (gr := []) [0, 1] [] rfl (by decide) rfl rfl hP hD
  refine wz_calli (va_runV (As := [.int (nI cd)]) (rest := [.ref (az 8)]) ⟨hx, hb, hml, hown, hts⟩ (c_Z_seatOf l D q az th n k kn bk sz fd ln fm fw st sp wy se Q sf cd hst hse ht hQn hcd hx24 _) (cwV 1 hts (wz_goodV kw_586 kw_588 kw_25 kw_37 kw_589) rfl rfl rfl (by decide +kernel) ⟨Nat.le_of_ble_eq_true rfl, Nat.le_of_ble_eq_true rfl⟩) (wz_preV (gi := 0) (k := 0) hN hK hQ wz_L_ok rfl rfl rfl) rfl rfl hl.1 rfl (lv_room (Nat.le_of_ble_eq_true rfl)) d_Z_numberOf_6 ⟨Nat.le_of_ble_eq_true rfl, Nat.le_of_ble_eq_true rfl⟩) hQ hS hA (fun v_6 gx H locs hp hP hD hS => ?_)
  obtain ⟨rfl, j, hj, rfl, hstop, hleast⟩ := hp
  have hk : ((zh_hh cd + j) % 65536) < 65536 := Nat.mod_lt _ (by decide)
  obtain ⟨hP, hD⟩ := wz_ord (n := 2) (gs' := [zo_W q az th n k kn bk sz fd ln fm fw, zb_W q az st sp wy se]) [0, 1] rfl (by decide) rfl hP hD
  refine wz_iald hx hb hK hP 1 3 (j := ((zh_hh cd + j) % 65536)) rfl rfl (by omega) (by decide) d_Z_numberOf_9 ?_
  refine wz_topi (y := nI (sf ((zh_hh cd + j) % 65536))) (hse _ hk) ?_
  refine lv_iconst (v := nI 1) hx hb d_Z_numberOf_10 (by decide) ?_
  refine lv_isub hx hb d_Z_numberOf_11 ?_
  exact wz_iret hx hb hr hlocks hK hP hD hS d_Z_numberOf_12 ⟨rfl, by
    by_cases hm : cd ∈ Q
    · obtain ⟨i, hi⟩ := List.getElem?_of_mem hm
      have h9 := pz_ht_in ht hnd (by decide) hi hstop hleast
      exact Or.inl ⟨i, hi, by rw [h9]; exact pk_sub (a := i + 1) (b := 1) (by omega)⟩
    · have h9 := pz_ht_out hm hstop
      exact Or.inr ⟨hm, by rw [h9]; decide⟩⟩
def po_Z_put (q : wz_Q) (az : Nat → Nat) (th : Int32) (n k : Nat) (kn bk : Int32) (sz : Nat) (fd : Int32) (ln : Nat) (fm : Int32) (fw : Int64) (st sp : Nat → Int32) (wy : Nat → Int64) (se : Nat → Int32) (S : pz_S) (cd d9 : Nat) : Int32 → wz_G → Prop := fun v w => ∃ (st' sp' : Nat → Int32) (wy' : Nat → Int64) (se' : Nat → Int32) (j : Nat), w = [zo_W q az th n k kn bk ((pz_take d9 S cd).1.length) fd ln fm fw, zb_W q az st' sp' wy' se'] ∧ v = nI j ∧ (pz_take d9 S cd).1[j]? = some cd ∧ zb_ok (pz_take d9 S cd) st' sp' wy' se'
set_option maxHeartbeats 4000000 in
set_option maxRecDepth 100000 in
/-- a state comes into the table -/
theorem c_Z_put (l : Launch) (D : va_G) (q : wz_Q) (az : Nat → Nat) (th : Int32) (n k : Nat) (kn bk : Int32) (sz : Nat) (fd : Int32) (ln : Nat) (fm : Int32) (fw : Int64) (st sp : Nat → Int32) (wy : Nat → Int64) (se : Nat → Int32) (S : pz_S) (cd d9 : Nat) (hsz : sz = S.1.length) (hz : zb_ok S st sp wy se) (hQn : S.1.length ≤ 40320) (hcd : cd < 2 ^ 24) (hx24 : ∀ x, x ∈ S.1 → x < 2 ^ 24) (hroom : S.2.1 cd = none → S.1.length < 40320) : wz_Mi l y_Z_put ws_Z_put ({ frames := 1, cells := 0, slots := 0, locals := 22 } : Room) D q ([.ref (az 0), .int (nI cd), .int (nI d9)] : List Value) [zo_W q az th n k kn bk sz fd ln fm fw, zb_W q az st sp wy se] (po_Z_put q az th n k kn bk sz fd ln fm fw st sp wy se S cd d9) 0 0 := by
  intro sz9
  refine wz_enter (cc := b_Z_put) (maxL := 4) (ret := (some .int)) (Qc := fun A => (va_Qi (po_Z_put q az th n k kn bk sz fd ln fm fw st sp wy se S cd d9) (wz_At D q A) A)) (by decide) (Nat.le_of_ble_eq_true rfl) ?_
  intro p e s m below meth c A ls C hP hD hS hl
  obtain ⟨hx, hb, hr, hml, hlocks, hown, hts, hN, hK, hA, hnm⟩ := C
  have hown : s.vm.findClass "TwoEndSearchModel" = some m.cls := hown
  have hl : lv_has ls 4 [(0, .ref (az 0)), (1, .int (nI cd)), (2, .int (nI d9))] := hl
  subst hsz
  obtain ⟨sf, hse, ht⟩ := hz.2.2
  refine lv_aload_n hx hb d_Z_put_0 rfl (lv_at hl 0 rfl) ?_
  refine lv_iload_n hx hb d_Z_put_1 rfl (lv_at hl 1 rfl) ?_
  have hQ := wz_split (n := 2) (gc := [zo_W q az th n k kn bk S.1.length fd ln fm fw, zb_W q az st sp wy se]) (gr := []) [0, 1] [] rfl (by decide) rfl rfl hP hD
  refine wz_calli (va_runV (As := [.int (nI cd)]) (rest := []) ⟨hx, hb, hml, hown, hts⟩ (c_Z_seatOf l D q az th n k kn bk S.1.length fd ln fm fw st sp wy se S.1 sf cd (fun i x h9 => (hz.2.1 i x h9).1) hse ht hQn hcd hx24 _) (cwV 1 hts (wz_goodV kw_586 kw_588 kw_25 kw_37 kw_589) rfl rfl rfl (by decide +kernel) ⟨Nat.le_of_ble_eq_true rfl, Nat.le_of_ble_eq_true rfl⟩) (wz_preV (gi := 0) (k := 0) hN hK hQ wz_L_ok rfl rfl rfl) rfl rfl hl.1 rfl (lv_room (Nat.le_of_ble_eq_true rfl)) d_Z_put_2 ⟨Nat.le_of_ble_eq_true rfl, Nat.le_of_ble_eq_true rfl⟩) hQ hS hA (fun v_2 gx H locs hp hP hD hS => ?_)
  obtain ⟨rfl, j, hj, rfl, hstop, hleast⟩ := hp
  have hk : ((zh_hh cd + j) % 65536) < 65536 := Nat.mod_lt _ (by decide)
  have hv : sf ((zh_hh cd + j) % 65536) ≤ S.1.length := by
    by_cases e0 : sf ((zh_hh cd + j) % 65536) = 0
    · omega
    · obtain ⟨x, hx9⟩ := ht.1 _ hk e0
      have := (List.getElem?_eq_some_iff.mp hx9).1
      omega
  obtain ⟨hP, hD⟩ := wz_ord (n := 2) (gs' := [zo_W q az th n k kn bk S.1.length fd ln fm fw, zb_W q az st sp wy se]) [0, 1] rfl (by decide) rfl hP hD
  refine lv_istore_n (lv' := [(3, .int (nI ((zh_hh cd + j) % 65536))), (0, .ref (az 0)), (1, .int (nI cd)), (2, .int (nI d9))]) hx hb d_Z_put_5 rfl hl (by decide) rfl (fun ls hl => ?_)
  refine lv_aload_n hx hb d_Z_put_6 rfl (lv_at hl 1 rfl) ?_
  refine wz_get (v := .ref (az 8)) (T := T_Z) (N := 22) hx hb hts i_Z hown hK hP 0 0 rfl rfl rfl 13 (by decide) (hts _ kw_478) rfl rfl d_Z_put_7 ?_
  refine lv_iload_n hx hb d_Z_put_10 rfl (lv_at hl 0 rfl) ?_
  refine wz_iald hx hb hK hP 1 3 (j := ((zh_hh cd + j) % 65536)) rfl rfl (by omega) (by decide) d_Z_put_11 ?_
  refine wz_topi (y := nI (sf ((zh_hh cd + j) % 65536))) (hse _ hk) ?_
  refine lv_if_ne (tgt := 65) hx hb d_Z_put_12 (by decide) (fun hc => ?_) (fun hc => ?_)
  · skip
    have hne : sf ((zh_hh cd + j) % 65536) ≠ 0 := fun e0 => hc (by rw [e0]; rfl)
    have hmt := hstop.resolve_left hne
    have hkn : S.2.1 cd ≠ none := (hz.1.2 cd).mp (List.mem_of_getElem? hmt)
    have hT : pz_take d9 S cd = S := pz_take_no hkn
    refine lv_aload_n hx hb d_Z_put_65 rfl (lv_at hl 1 rfl) ?_
    refine wz_get (v := .ref (az 8)) (T := T_Z) (N := 22) hx hb hts i_Z hown hK hP 0 0 rfl rfl rfl 13 (by decide) (hts _ kw_478) rfl rfl d_Z_put_66 ?_
    refine lv_iload_n hx hb d_Z_put_69 rfl (lv_at hl 0 rfl) ?_
    refine wz_iald hx hb hK hP 1 3 (j := ((zh_hh cd + j) % 65536)) rfl rfl (by omega) (by decide) d_Z_put_70 ?_
    refine wz_topi (y := nI (sf ((zh_hh cd + j) % 65536))) (hse _ hk) ?_
    refine lv_iconst (v := nI 1) hx hb d_Z_put_71 (by decide) ?_
    refine lv_isub hx hb d_Z_put_72 ?_
    refine wz_topi (y := nI (sf ((zh_hh cd + j) % 65536) - 1)) (pk_sub (by omega)) ?_
    exact wz_iret hx hb hr hlocks hK hP hD hS d_Z_put_73 ⟨st, sp, wy, se, sf ((zh_hh cd + j) % 65536) - 1, by rw [hT], rfl, by rw [hT]; exact hmt, by rw [hT]; exact hz⟩
  · skip
    have h0 : sf ((zh_hh cd + j) % 65536) = 0 := (nI_eq (by omega) (by omega)).mp (hc.trans nI_0.symm)
    have hnm : cd ∉ S.1 := fun hm => by
      obtain ⟨i, hi⟩ := List.getElem?_of_mem hm
      have := pz_ht_in ht hz.1.1 (by decide) hi hstop hleast
      omega
    have hnone : S.2.1 cd = none := by
      cases hq : S.2.1 cd with
      | none => rfl
      | some e9 => exact absurd (pz_far_mem hz.1 hq) hnm
    have hr9 := hroom hnone
    have hT1 : (pz_take d9 S cd).1 = S.1 ++ [cd] := by rw [pz_take_1, if_pos hnone]
    refine lv_aload_n hx hb d_Z_put_15 rfl (lv_at hl 1 rfl) ?_
    refine wz_get (v := .ref (az 5)) (T := T_Z) (N := 22) hx hb hts i_Z hown hK hP 0 0 rfl rfl rfl 10 (by decide) (hts _ kw_475) rfl rfl d_Z_put_16 ?_
    refine lv_aload_n hx hb d_Z_put_19 rfl (lv_at hl 1 rfl) ?_
    refine wz_get (v := .int (nI S.1.length)) (T := T_Z) (N := 22) hx hb hts i_Z hown hK hP 0 0 rfl rfl rfl 9 (by decide) (hts _ kw_474) rfl rfl d_Z_put_20 ?_
    refine lv_iload_n hx hb d_Z_put_23 rfl (lv_at hl 2 rfl) ?_
    refine wz_iast (gs' := [zo_W q az th n k kn bk S.1.length fd ln fm fw, zb_W q az (upd st S.1.length (nI cd)) sp wy se]) hx hb hK hP hD hS 1 0 (j := S.1.length) rfl rfl (by omega) (by decide) d_Z_put_24 rfl (fun H locs hP hD hS => ?_)
    refine lv_aload_n hx hb d_Z_put_25 rfl (lv_at hl 1 rfl) ?_
    refine wz_get (v := .ref (az 6)) (T := T_Z) (N := 22) hx hb hts i_Z hown hK hP 0 0 rfl rfl rfl 11 (by decide) (hts _ kw_476) rfl rfl d_Z_put_26 ?_
    refine lv_aload_n hx hb d_Z_put_29 rfl (lv_at hl 1 rfl) ?_
    refine wz_get (v := .int (nI S.1.length)) (T := T_Z) (N := 22) hx hb hts i_Z hown hK hP 0 0 rfl rfl rfl 9 (by decide) (hts _ kw_474) rfl rfl d_Z_put_30 ?_
    refine lv_iload_n hx hb d_Z_put_33 rfl (lv_at hl 3 rfl) ?_
    refine wz_iast (gs' := [zo_W q az th n k kn bk S.1.length fd ln fm fw, zb_W q az (upd st S.1.length (nI cd)) (upd sp S.1.length (nI d9)) wy se]) hx hb hK hP hD hS 1 1 (j := S.1.length) rfl rfl (by omega) (by decide) d_Z_put_34 rfl (fun H locs hP hD hS => ?_)
    refine lv_aload_n hx hb d_Z_put_35 rfl (lv_at hl 1 rfl) ?_
    refine wz_get (v := .ref (az 7)) (T := T_Z) (N := 22) hx hb hts i_Z hown hK hP 0 0 rfl rfl rfl 12 (by decide) (hts _ kw_477) rfl rfl d_Z_put_36 ?_
    refine lv_aload_n hx hb d_Z_put_39 rfl (lv_at hl 1 rfl) ?_
    refine wz_get (v := .int (nI S.1.length)) (T := T_Z) (N := 22) hx hb hts i_Z hown hK hP 0 0 rfl rfl rfl 9 (by decide) (hts _ kw_474) rfl rfl d_Z_put_40 ?_
    refine lv_lconst (v := 0) hx hb d_Z_put_43 rfl ?_
    refine wz_last (gs' := [zo_W q az th n k kn bk S.1.length fd ln fm fw, zb_W q az (upd st S.1.length (nI cd)) (upd sp S.1.length (nI d9)) (vp_updL wy S.1.length 0) se]) hx hb hK hP hD hS 1 2 (j := S.1.length) rfl rfl (by omega) (by decide) d_Z_put_44 rfl (fun H locs hP hD hS => ?_)
    refine lv_aload_n hx hb d_Z_put_45 rfl (lv_at hl 1 rfl) ?_
    refine lv_dup hx hb d_Z_put_46 rfl ?_
    refine wz_get (v := .int (nI S.1.length)) (T := T_Z) (N := 22) hx hb hts i_Z hown hK hP 0 0 rfl rfl rfl 9 (by decide) (hts _ kw_474) rfl rfl d_Z_put_47 ?_
    refine lv_iconst (v := nI 1) hx hb d_Z_put_50 (by decide) ?_
    refine lv_iadd hx hb d_Z_put_51 ?_
    refine wz_topi (y := nI (S.1.length + 1)) (nI_add S.1.length 1) ?_
    refine wz_put (gs' := [zo_W q az th n k kn bk (S.1.length + 1) fd ln fm fw, zb_W q az (upd st S.1.length (nI cd)) (upd sp S.1.length (nI d9)) (vp_updL wy S.1.length 0) se]) (v := .int (nI (S.1.length + 1))) (T := T_Z) (N := 22) hx hb hts i_Z t_Z t_Z_ok n_Z hown hK hP hD hS 0 0 rfl rfl rfl 9 (by decide) (hts _ kw_474) rfl rfl (ty := t_Z 9) (by decide +kernel) rfl rfl (Nat.le_of_ble_eq_true rfl) d_Z_put_52 rfl (fun H locs hP hD hS => ?_)
    refine lv_aload_n hx hb d_Z_put_55 rfl (lv_at hl 1 rfl) ?_
    refine wz_get (v := .ref (az 8)) (T := T_Z) (N := 22) hx hb hts i_Z hown hK hP 0 0 rfl rfl rfl 13 (by decide) (hts _ kw_478) rfl rfl d_Z_put_56 ?_
    refine lv_iload_n hx hb d_Z_put_59 rfl (lv_at hl 0 rfl) ?_
    refine lv_aload_n hx hb d_Z_put_60 rfl (lv_at hl 1 rfl) ?_
    refine wz_get (v := .int (nI (S.1.length + 1))) (T := T_Z) (N := 22) hx hb hts i_Z hown hK hP 0 0 rfl rfl rfl 9 (by decide) (hts _ kw_474) rfl rfl d_Z_put_61 ?_
    refine wz_iast (gs' := [zo_W q az th n k kn bk (S.1.length + 1) fd ln fm fw, zb_W q az (upd st S.1.length (nI cd)) (upd sp S.1.length (nI d9)) (vp_updL wy S.1.length 0) (upd se ((zh_hh cd + j) % 65536) (nI (S.1.length + 1)))]) hx hb hK hP hD hS 1 3 (j := ((zh_hh cd + j) % 65536)) rfl rfl (by omega) (by decide) d_Z_put_64 rfl (fun H locs hP hD hS => ?_)
    refine lv_aload_n hx hb d_Z_put_65 rfl (lv_at hl 1 rfl) ?_
    refine wz_get (v := .ref (az 8)) (T := T_Z) (N := 22) hx hb hts i_Z hown hK hP 0 0 rfl rfl rfl 13 (by decide) (hts _ kw_478) rfl rfl d_Z_put_66 ?_
    refine lv_iload_n hx hb d_Z_put_69 rfl (lv_at hl 0 rfl) ?_
    refine wz_iald hx hb hK hP 1 3 (j := ((zh_hh cd + j) % 65536)) rfl rfl (by omega) (by decide) d_Z_put_70 ?_
    refine wz_topi (y := nI (S.1.length + 1)) pk_us ?_
    refine lv_iconst (v := nI 1) hx hb d_Z_put_71 (by decide) ?_
    refine lv_isub hx hb d_Z_put_72 ?_
    refine wz_topi (y := nI S.1.length) (show _ = nI S.1.length from pk_sub (a := S.1.length + 1) (b := 1) (by omega)) ?_
    exact wz_iret hx hb hr hlocks hK hP hD hS d_Z_put_73 ⟨_, _, _, _, S.1.length, by rw [bl_take_len hnone], rfl, by rw [hT1, List.getElem?_append_right (Nat.le_refl _), Nat.sub_self]; rfl, zb_take hz hse ht hnone hj h0 hleast⟩
