theorem zr_and7 {u : Nat} (h : u < 2 ^ 63) : lN u &&& 7 = lN (u % 8) := by
  apply Int64.toBitVec_inj.mp
  apply BitVec.eq_of_toNat_eq
  show ((lN u).toBitVec &&& (7 : Int64).toBitVec).toNat = (lN (u % 8)).toBitVec.toNat
  rw [BitVec.toNat_and, show (lN u).toBitVec.toNat = u from Nat.mod_eq_of_lt (by omega), show (lN (u % 8)).toBitVec.toNat = u % 8 from Nat.mod_eq_of_lt (by omega), show (7 : Int64).toBitVec.toNat = 2 ^ 3 - 1 from rfl, Nat.and_two_pow_sub_one_eq_mod]
theorem zr_shr3 {u : Nat} (h : u < 2 ^ 63) : ((lN u).toUInt64 >>> ((nI 3).toInt64.toUInt64 &&& Int64.toUInt64 63)).toInt64 = lN (u / 8) := by
  apply Int64.toBitVec_inj.mp
  apply BitVec.eq_of_toNat_eq
  show ((lN u).toBitVec >>> (((nI 3).toInt64.toBitVec &&& (63 : Int64).toBitVec) % 64)).toNat = (lN (u / 8)).toBitVec.toNat
  rw [show ((nI 3).toInt64.toBitVec &&& (63 : Int64).toBitVec) % 64 = 3#64 from by decide, BitVec.ushiftRight_eq', BitVec.toNat_ushiftRight, show (lN u).toBitVec.toNat = u from Nat.mod_eq_of_lt (by omega), show (lN (u / 8)).toBitVec.toNat = u / 8 from Nat.mod_eq_of_lt (by omega), show (3#64).toNat = 3 from rfl, Nat.shiftRight_eq_div_pow]
theorem d_X_label_0 : decode b_X_label 0 = .ok (.iload_n 2, 1) := by decide +kernel
theorem d_X_label_1 : decode b_X_label 1 = .ok (.ifCond .lt 21, 3) := by decide +kernel
theorem d_X_label_4 : decode b_X_label 4 = .ok (.iload_n 2, 1) := by decide +kernel
theorem d_X_label_5 : decode b_X_label 5 = .ok (.aload_n 0, 1) := by decide +kernel
theorem d_X_label_6 : decode b_X_label 6 = .ok (.getfield 18, 3) := by decide +kernel
theorem d_X_label_9 : decode b_X_label 9 = .ok (.if_icmp .ge 13, 3) := by decide +kernel
theorem d_X_label_12 : decode b_X_label 12 = .ok (.iload_n 3, 1) := by decide +kernel
theorem d_X_label_13 : decode b_X_label 13 = .ok (.ifCond .lt 9, 3) := by decide +kernel
theorem d_X_label_16 : decode b_X_label 16 = .ok (.iload_n 3, 1) := by decide +kernel
theorem d_X_label_17 : decode b_X_label 17 = .ok (.bipush 7, 2) := by decide +kernel
theorem d_X_label_19 : decode b_X_label 19 = .ok (.if_icmp .le 5, 3) := by decide +kernel
theorem d_X_label_22 : decode b_X_label 22 = .ok (.iconst 0, 1) := by decide +kernel
theorem d_X_label_23 : decode b_X_label 23 = .ok (.ireturn, 1) := by decide +kernel
theorem d_X_label_24 : decode b_X_label 24 = .ok (.iload_n 1, 1) := by decide +kernel
theorem d_X_label_25 : decode b_X_label 25 = .ok (.ifCond .eq 23, 3) := by decide +kernel
theorem d_X_label_28 : decode b_X_label 28 = .ok (.aload_n 0, 1) := by decide +kernel
theorem d_X_label_29 : decode b_X_label 29 = .ok (.aload_n 0, 1) := by decide +kernel
theorem d_X_label_30 : decode b_X_label 30 = .ok (.getfield 38, 3) := by decide +kernel
theorem d_X_label_33 : decode b_X_label 33 = .ok (.iload_n 2, 1) := by decide +kernel
theorem d_X_label_34 : decode b_X_label 34 = .ok (.iload_n 3, 1) := by decide +kernel
theorem d_X_label_35 : decode b_X_label 35 = .ok (.invokestatic 68, 3) := by decide +kernel
theorem d_X_label_38 : decode b_X_label 38 = .ok (.putfield 38, 3) := by decide +kernel
theorem d_X_label_41 : decode b_X_label 41 = .ok (.aload_n 0, 1) := by decide +kernel
theorem d_X_label_42 : decode b_X_label 42 = .ok (.invokevirtual 72, 3) := by decide +kernel
theorem d_X_label_45 : decode b_X_label 45 = .ok (.goto 20, 3) := by decide +kernel
theorem d_X_label_48 : decode b_X_label 48 = .ok (.aload_n 0, 1) := by decide +kernel
theorem d_X_label_49 : decode b_X_label 49 = .ok (.aload_n 0, 1) := by decide +kernel
theorem d_X_label_50 : decode b_X_label 50 = .ok (.getfield 35, 3) := by decide +kernel
theorem d_X_label_53 : decode b_X_label 53 = .ok (.iload_n 2, 1) := by decide +kernel
theorem d_X_label_54 : decode b_X_label 54 = .ok (.iload_n 3, 1) := by decide +kernel
theorem d_X_label_55 : decode b_X_label 55 = .ok (.invokestatic 68, 3) := by decide +kernel
theorem d_X_label_58 : decode b_X_label 58 = .ok (.putfield 35, 3) := by decide +kernel
theorem d_X_label_61 : decode b_X_label 61 = .ok (.aload_n 0, 1) := by decide +kernel
theorem d_X_label_62 : decode b_X_label 62 = .ok (.invokevirtual 54, 3) := by decide +kernel
theorem d_X_label_65 : decode b_X_label 65 = .ok (.iconst 1, 1) := by decide +kernel
theorem d_X_label_66 : decode b_X_label 66 = .ok (.ireturn, 1) := by decide +kernel
theorem d_X_replay_0 : decode b_X_replay 0 = .ok (.lload_n 1, 1) := by decide +kernel
theorem d_X_replay_1 : decode b_X_replay 1 = .ok (.lconst 0, 1) := by decide +kernel
theorem d_X_replay_2 : decode b_X_replay 2 = .ok (.lcmp, 1) := by decide +kernel
theorem d_X_replay_3 : decode b_X_replay 3 = .ok (.ifCond .ge 5, 3) := by decide +kernel
theorem d_X_replay_6 : decode b_X_replay 6 = .ok (.iconst 0, 1) := by decide +kernel
theorem d_X_replay_7 : decode b_X_replay 7 = .ok (.ireturn, 1) := by decide +kernel
theorem d_X_replay_8 : decode b_X_replay 8 = .ok (.aload_n 0, 1) := by decide +kernel
theorem d_X_replay_9 : decode b_X_replay 9 = .ok (.getfield 35, 3) := by decide +kernel
theorem d_X_replay_12 : decode b_X_replay 12 = .ok (.istore_n 3, 1) := by decide +kernel
theorem d_X_replay_13 : decode b_X_replay 13 = .ok (.lload_n 1, 1) := by decide +kernel
theorem d_X_replay_14 : decode b_X_replay 14 = .ok (.lstore 4, 2) := by decide +kernel
theorem d_X_replay_16 : decode b_X_replay 16 = .ok (.iconst 0, 1) := by decide +kernel
theorem d_X_replay_17 : decode b_X_replay 17 = .ok (.istore 6, 2) := by decide +kernel
theorem d_X_replay_19 : decode b_X_replay 19 = .ok (.iload 6, 2) := by decide +kernel
theorem d_X_replay_21 : decode b_X_replay 21 = .ok (.bipush 21, 2) := by decide +kernel
theorem d_X_replay_23 : decode b_X_replay 23 = .ok (.if_icmp .ge 77, 3) := by decide +kernel
theorem d_X_replay_26 : decode b_X_replay 26 = .ok (.lload 4, 2) := by decide +kernel
theorem d_X_replay_28 : decode b_X_replay 28 = .ok (.ldc2_w 114, 3) := by decide +kernel
theorem d_X_replay_31 : decode b_X_replay 31 = .ok (.land, 1) := by decide +kernel
theorem d_X_replay_32 : decode b_X_replay 32 = .ok (.l2i, 1) := by decide +kernel
theorem d_X_replay_33 : decode b_X_replay 33 = .ok (.istore 7, 2) := by decide +kernel
theorem d_X_replay_35 : decode b_X_replay 35 = .ok (.lload 4, 2) := by decide +kernel
theorem d_X_replay_37 : decode b_X_replay 37 = .ok (.iconst 3, 1) := by decide +kernel
theorem d_X_replay_38 : decode b_X_replay 38 = .ok (.lushr, 1) := by decide +kernel
theorem d_X_replay_39 : decode b_X_replay 39 = .ok (.lstore 4, 2) := by decide +kernel
theorem d_X_replay_41 : decode b_X_replay 41 = .ok (.iload 7, 2) := by decide +kernel
theorem d_X_replay_43 : decode b_X_replay 43 = .ok (.bipush 7, 2) := by decide +kernel
theorem d_X_replay_45 : decode b_X_replay 45 = .ok (.if_icmp .ne 24, 3) := by decide +kernel
theorem d_X_replay_48 : decode b_X_replay 48 = .ok (.lload 4, 2) := by decide +kernel
theorem d_X_replay_50 : decode b_X_replay 50 = .ok (.lconst 0, 1) := by decide +kernel
theorem d_X_replay_51 : decode b_X_replay 51 = .ok (.lcmp, 1) := by decide +kernel
theorem d_X_replay_52 : decode b_X_replay 52 = .ok (.ifCond .ne 15, 3) := by decide +kernel
theorem d_X_replay_55 : decode b_X_replay 55 = .ok (.iload_n 3, 1) := by decide +kernel
theorem d_X_replay_56 : decode b_X_replay 56 = .ok (.aload_n 0, 1) := by decide +kernel
theorem d_X_replay_57 : decode b_X_replay 57 = .ok (.getfield 38, 3) := by decide +kernel
theorem d_X_replay_60 : decode b_X_replay 60 = .ok (.if_icmp .ne 7, 3) := by decide +kernel
theorem d_X_replay_63 : decode b_X_replay 63 = .ok (.iconst 1, 1) := by decide +kernel
theorem d_X_replay_64 : decode b_X_replay 64 = .ok (.goto 4, 3) := by decide +kernel
theorem d_X_replay_67 : decode b_X_replay 67 = .ok (.iconst 0, 1) := by decide +kernel
theorem d_X_replay_68 : decode b_X_replay 68 = .ok (.ireturn, 1) := by decide +kernel
theorem d_X_replay_69 : decode b_X_replay 69 = .ok (.aload_n 0, 1) := by decide +kernel
theorem d_X_replay_70 : decode b_X_replay 70 = .ok (.getfield 27, 3) := by decide +kernel
theorem d_X_replay_73 : decode b_X_replay 73 = .ok (.iload 7, 2) := by decide +kernel
theorem d_X_replay_75 : decode b_X_replay 75 = .ok (.invokevirtual 61, 3) := by decide +kernel
theorem d_X_replay_78 : decode b_X_replay 78 = .ok (.ifCond .ne 5, 3) := by decide +kernel
theorem d_X_replay_81 : decode b_X_replay 81 = .ok (.iconst 0, 1) := by decide +kernel
theorem d_X_replay_82 : decode b_X_replay 82 = .ok (.ireturn, 1) := by decide +kernel
theorem d_X_replay_83 : decode b_X_replay 83 = .ok (.aload_n 0, 1) := by decide +kernel
theorem d_X_replay_84 : decode b_X_replay 84 = .ok (.getfield 27, 3) := by decide +kernel
theorem d_X_replay_87 : decode b_X_replay 87 = .ok (.iload 7, 2) := by decide +kernel
theorem d_X_replay_89 : decode b_X_replay 89 = .ok (.iload_n 3, 1) := by decide +kernel
theorem d_X_replay_90 : decode b_X_replay 90 = .ok (.invokevirtual 116, 3) := by decide +kernel
theorem d_X_replay_93 : decode b_X_replay 93 = .ok (.istore_n 3, 1) := by decide +kernel
theorem d_X_replay_94 : decode b_X_replay 94 = .ok (.iinc 6 1, 3) := by decide +kernel
theorem d_X_replay_97 : decode b_X_replay 97 = .ok (.goto (-78), 3) := by decide +kernel
theorem d_X_replay_100 : decode b_X_replay 100 = .ok (.iconst 0, 1) := by decide +kernel
theorem d_X_replay_101 : decode b_X_replay 101 = .ok (.ireturn, 1) := by decide +kernel
theorem kw_4 : (Cond.selects "TwoEndSearch" ⟨"TwoEndSearch", "forgetFound", "()V"⟩ ⟨"TwoEndSearch", "forgetFound", "()V"⟩ : Cond) ∈ bigW := bigW_of 4 (by decide +kernel) (by decide +kernel)
theorem kw_284 : (Cond.methodLink "TwoEndSearch" 68 ⟨"TwoEndSearch", "labelled", "(III)I"⟩ : Cond) ∈ bigW := bigW_of 284 (by decide +kernel) (by decide +kernel)
theorem kw_285 : (Cond.static ⟨"TwoEndSearch", "labelled", "(III)I"⟩ : Cond) ∈ bigW := bigW_of 285 (by decide +kernel) (by decide +kernel)
theorem kw_286 : (Cond.code ⟨"TwoEndSearch", "labelled", "(III)I"⟩ prog_1_method_18_code 4 (some .int) : Cond) ∈ bigW := bigW_of 286 (by decide +kernel) (by decide +kernel)
theorem kw_287 : (Cond.methodLink "TwoEndSearch" 72 ⟨"TwoEndSearch", "forgetFound", "()V"⟩ : Cond) ∈ bigW := bigW_of 287 (by decide +kernel) (by decide +kernel)
theorem kw_289 : (Cond.instanceMethod ⟨"TwoEndSearch", "forgetFound", "()V"⟩ : Cond) ∈ bigW := bigW_of 289 (by decide +kernel) (by decide +kernel)
theorem kw_290 : (Cond.code ⟨"TwoEndSearch", "forgetFound", "()V"⟩ prog_1_method_15_code 1 none : Cond) ∈ bigW := bigW_of 290 (by decide +kernel) (by decide +kernel)
theorem kw_436 : (Cond.constantLong "TwoEndSearch" 114 7 : Cond) ∈ bigW := bigW_of 436 (by decide +kernel) (by decide +kernel)
theorem kw_437 : (Cond.methodLink "TwoEndSearch" 116 ⟨"TwoEndSearch$Moves", "bring", "(II)I"⟩ : Cond) ∈ bigW := bigW_of 437 (by decide +kernel) (by decide +kernel)
def po_X_label (q : wz_Q) (ax n k : Nat) (sg tu : Nat → Nat → Nat) (od : Nat → Nat) (sa gl : Nat) (F : cx_F) (b9 x y : Int32) : Int32 → wz_G → Prop := fun v w => (v = 0 ∧ cx q ax n k sg tu od sa gl F w ∧ ¬ ∃ p j, p < n ∧ j < 8 ∧ x = nI p ∧ y = nI j) ∨ (v = 1 ∧ ∃ p j, p < n ∧ j < 8 ∧ x = nI p ∧ y = nI j ∧ cx q ax n k sg tu od (if b9 = 0 then pz_lab sa p j else sa) (if b9 = 0 then gl else pz_lab gl p j) none w)
set_option maxHeartbeats 4000000 in
set_option maxRecDepth 100000 in
/-- a label at a place -/
theorem c_X_label (l : Launch) (D : va_G) (q : wz_Q) (ax n k : Nat) (sg tu : Nat → Nat → Nat) (od : Nat → Nat) (sa gl : Nat) (F : cx_F) (b9 x y : Int32) (WW : wz_G) (hW : cx q ax n k sg tu od sa gl F WW) : wz_Mi l y_X_label ws_X_label ({ frames := 2, cells := 0, slots := 0, locals := 40 } : Room) D q ([.ref ax, .int b9, .int x, .int y] : List Value) WW (po_X_label q ax n k sg tu od sa gl F b9 x y) 0 0 := by
  obtain ⟨as9, ab, ac, ak, ag, am, b, rl, rt, fo, M, rw, bg, sx, ro, ln, wz, G, st, sl, L, f1, w1, e1, z1, y1, d1, m1, c1, f2, w2, e2, z2, y2, d2, m2, c2, f3, w3, e3, z3, y3, d3, m3, c3, rfl, ⟨hn1, hn, hk, hsa, hgl, hb0, hb30, hM⟩, hmv, hgr, ⟨hw1, hw2, hw3⟩, hbg, hF⟩ := hW
  have hfl := pz_fact_le hn
  intro sz9
  refine wz_enter (cc := b_X_label) (maxL := 4) (ret := (some .boolean)) (Qc := fun A => (va_Qi (po_X_label q ax n k sg tu od sa gl F b9 x y) (wz_At D q A) A)) (by decide) (Nat.le_of_ble_eq_true rfl) ?_
  intro p e s m below meth c A ls C hP hD hS hl
  obtain ⟨hx, hb, hr, hml, hlocks, hown, hts, hN, hK, hA, hnm⟩ := C
  have hown : s.vm.findClass "TwoEndSearch" = some m.cls := hown
  have hl : lv_has ls 4 [(0, .ref ax), (1, .int b9), (2, .int x), (3, .int y)] := hl
  refine lv_iload_n hx hb d_X_label_0 rfl (lv_at hl 2 rfl) ?_
  refine lv_if_lt (tgt := 22) hx hb d_X_label_1 (by decide) (fun hc => ?_) (fun hc => ?_)
  · skip
    refine lv_iconst (v := nI 0) hx hb d_X_label_22 (by decide) ?_
    exact wz_zret hx hb hr hlocks hK hP hD hS d_X_label_23 (by first | exact Or.inl rfl | exact Or.inr rfl) (Or.inl ⟨rfl, (cx_in ⟨⟨hn1, hn, hk, hsa, hgl, hb0, hb30, hM⟩, hmv, hgr, ⟨hw1, hw2, hw3⟩, hbg, hF⟩), fun ⟨p1, j1, q⟩ => nI_pos (by have := q.1; omega) (q.2.2.1 ▸ hc)⟩)
  · skip
    obtain ⟨p1, hp1, rfl⟩ := nI_of hc
    refine lv_iload_n hx hb d_X_label_4 rfl (lv_at hl 2 rfl) ?_
    refine lv_aload_n hx hb d_X_label_5 rfl (lv_at hl 0 rfl) ?_
    refine wz_get (v := .int (nI n)) (T := T_X) (N := 5) hx hb hts i_X hown hK hP 0 0 rfl rfl rfl 0 (by decide) (hts _ kw_210) rfl rfl d_X_label_6 ?_
    refine wz_ge (tgt := 22) hx hb d_X_label_9 (by decide) (by omega) (by omega) (fun hc1 => ?_) (fun hc1 => ?_)
    · skip
      refine lv_iconst (v := nI 0) hx hb d_X_label_22 (by decide) ?_
      exact wz_zret hx hb hr hlocks hK hP hD hS d_X_label_23 (by first | exact Or.inl rfl | exact Or.inr rfl) (Or.inl ⟨rfl, (cx_in ⟨⟨hn1, hn, hk, hsa, hgl, hb0, hb30, hM⟩, hmv, hgr, ⟨hw1, hw2, hw3⟩, hbg, hF⟩), fun ⟨p2, j1, q⟩ => by have := (nI_eq (by omega) (by have := q.1; omega)).mp q.2.2.1; have := q.1; omega⟩)
    · skip
      refine lv_iload_n hx hb d_X_label_12 rfl (lv_at hl 3 rfl) ?_
      refine lv_if_lt (tgt := 22) hx hb d_X_label_13 (by decide) (fun hc2 => ?_) (fun hc2 => ?_)
      · skip
        refine lv_iconst (v := nI 0) hx hb d_X_label_22 (by decide) ?_
        exact wz_zret hx hb hr hlocks hK hP hD hS d_X_label_23 (by first | exact Or.inl rfl | exact Or.inr rfl) (Or.inl ⟨rfl, (cx_in ⟨⟨hn1, hn, hk, hsa, hgl, hb0, hb30, hM⟩, hmv, hgr, ⟨hw1, hw2, hw3⟩, hbg, hF⟩), fun ⟨p2, j1, q⟩ => nI_pos (by have := q.2.1; omega) (q.2.2.2 ▸ hc2)⟩)
      · skip
        refine lv_iload_n hx hb d_X_label_16 rfl (lv_at hl 3 rfl) ?_
        refine lv_bipush (v := nI 7) hx hb d_X_label_17 (by decide) ?_
        refine lv_icmp_le (tgt := 24) hx hb d_X_label_19 (by decide) (fun hc3 => ?_) (fun hc3 => ?_)
        · skip
          obtain ⟨j1, hj1, rfl⟩ := nI_of2 (n := 7) (by decide) hc2 hc3
          refine lv_iload_n hx hb d_X_label_24 rfl (lv_at hl 1 rfl) ?_
          refine lv_if_eq (tgt := 48) hx hb d_X_label_25 (by decide) (fun hc4 => ?_) (fun hc4 => ?_)
          · skip
            refine lv_aload_n hx hb d_X_label_48 rfl (lv_at hl 0 rfl) ?_
            refine lv_aload_n hx hb d_X_label_49 rfl (lv_at hl 0 rfl) ?_
            refine wz_get (v := .int (nI sa)) (T := T_X) (N := 5) hx hb hts i_X hown hK hP 0 0 rfl rfl rfl 2 (by decide) (hts _ kw_212) rfl rfl d_X_label_50 ?_
            refine lv_iload_n hx hb d_X_label_53 rfl (lv_at hl 2 rfl) ?_
            refine lv_iload_n hx hb d_X_label_54 rfl (lv_at hl 3 rfl) ?_
            have hQ := wz_split (n := 9) (gc := []) (gr := [xo_W q ax n (am 0) sa gl (as9 0), se_W q as9 n (am 0) (ag 0) (ab 0) (ac 0) (ak 0) (pz_fact n) rw bg sx ro ln wz, bl_W q ab (am 0) (ag 0) 0 (pz_fact n) f1 w1 e1 z1 y1 d1 m1 c1, bl_W q ac (am 0) (ag 0) 0 (pz_fact n) f2 w2 e2 z2 y2 d2 m2 c2, bl_W q ak (am 0) (ag 0) 6 (pz_fact n) f3 w3 e3 z3 y3 d3 m3 c3, gq_W q ag (am 0) (pz_fact n) (2 ^ b) (32 - b) rl st sl G.length, wz_rows 12 rl (fun i9 => .inl (q.1, pz_fact n, .inl (L i9))), mv_W q am n k rt fo, wz_rows 12 rt (fun i9 => .inl (q.1, 8, .inl (M i9)))]) [] [0, 1, 2, 3, 4, 5, 6, 7, 8] rfl (by decide) rfl rfl hP hD
            refine wz_calli (va_runS (As := [.int (nI sa), .int (nI p1), .int (nI j1)]) (rest := [.ref ax]) ⟨hx, hb, hml, hown, hts⟩ (c_X_labelled l D q n sa p1 j1 hn hsa (by omega) (by omega) _) (va_cwS 3 hts (wz_goodS kw_284 kw_285 kw_30 kw_286) rfl rfl rfl (by decide +kernel) ⟨Nat.le_of_ble_eq_true rfl, Nat.le_of_ble_eq_true rfl⟩) (wz_preS hN hK hQ wz_L_ok) rfl rfl hl.1 rfl (lv_room (Nat.le_of_ble_eq_true rfl)) d_X_label_55 ⟨Nat.le_of_ble_eq_true rfl, Nat.le_of_ble_eq_true rfl⟩) hQ hS hA (fun v_55 gx H locs hp hP hD hS => ?_)
            obtain ⟨rfl, rfl⟩ := hp
            obtain ⟨hP, hD⟩ := wz_ord (n := 9) (gs' := [xo_W q ax n (am 0) sa gl (as9 0), se_W q as9 n (am 0) (ag 0) (ab 0) (ac 0) (ak 0) (pz_fact n) rw bg sx ro ln wz, bl_W q ab (am 0) (ag 0) 0 (pz_fact n) f1 w1 e1 z1 y1 d1 m1 c1, bl_W q ac (am 0) (ag 0) 0 (pz_fact n) f2 w2 e2 z2 y2 d2 m2 c2, bl_W q ak (am 0) (ag 0) 6 (pz_fact n) f3 w3 e3 z3 y3 d3 m3 c3, gq_W q ag (am 0) (pz_fact n) (2 ^ b) (32 - b) rl st sl G.length, wz_rows 12 rl (fun i9 => .inl (q.1, pz_fact n, .inl (L i9))), mv_W q am n k rt fo, wz_rows 12 rt (fun i9 => .inl (q.1, 8, .inl (M i9)))]) [0, 1, 2, 3, 4, 5, 6, 7, 8] rfl (by decide) rfl hP hD
            refine wz_put (gs' := [xo_W q ax n (am 0) (pz_lab sa p1 j1) gl (as9 0), se_W q as9 n (am 0) (ag 0) (ab 0) (ac 0) (ak 0) (pz_fact n) rw bg sx ro ln wz, bl_W q ab (am 0) (ag 0) 0 (pz_fact n) f1 w1 e1 z1 y1 d1 m1 c1, bl_W q ac (am 0) (ag 0) 0 (pz_fact n) f2 w2 e2 z2 y2 d2 m2 c2, bl_W q ak (am 0) (ag 0) 6 (pz_fact n) f3 w3 e3 z3 y3 d3 m3 c3, gq_W q ag (am 0) (pz_fact n) (2 ^ b) (32 - b) rl st sl G.length, wz_rows 12 rl (fun i9 => .inl (q.1, pz_fact n, .inl (L i9))), mv_W q am n k rt fo, wz_rows 12 rt (fun i9 => .inl (q.1, 8, .inl (M i9)))]) (v := .int (nI (pz_lab sa p1 j1))) (T := T_X) (N := 5) hx hb hts i_X t_X t_X_ok n_X hown hK hP hD hS 0 0 rfl rfl rfl 2 (by decide) (hts _ kw_212) rfl rfl (ty := t_X 2) (by decide +kernel) rfl rfl (Nat.le_of_ble_eq_true rfl) d_X_label_58 rfl (fun H locs hP hD hS => ?_)
            refine lv_aload_n hx hb d_X_label_61 rfl (lv_at hl 0 rfl) ?_
            have hQ := wz_split (n := 9) (gc := [xo_W q ax n (am 0) (pz_lab sa p1 j1) gl (as9 0), se_W q as9 n (am 0) (ag 0) (ab 0) (ac 0) (ak 0) (pz_fact n) rw bg sx ro ln wz]) (gr := [bl_W q ab (am 0) (ag 0) 0 (pz_fact n) f1 w1 e1 z1 y1 d1 m1 c1, bl_W q ac (am 0) (ag 0) 0 (pz_fact n) f2 w2 e2 z2 y2 d2 m2 c2, bl_W q ak (am 0) (ag 0) 6 (pz_fact n) f3 w3 e3 z3 y3 d3 m3 c3, gq_W q ag (am 0) (pz_fact n) (2 ^ b) (32 - b) rl st sl G.length, wz_rows 12 rl (fun i9 => .inl (q.1, pz_fact n, .inl (L i9))), mv_W q am n k rt fo, wz_rows 12 rt (fun i9 => .inl (q.1, 8, .inl (M i9)))]) [0, 1] [2, 3, 4, 5, 6, 7, 8] rfl (by decide) rfl rfl hP hD
            refine wz_callv (va_runV (As := []) (rest := []) ⟨hx, hb, hml, hown, hts⟩ (c_X_forgetAll l D q ax as9 n (am 0) (ag 0) (ab 0) (ac 0) (ak 0) (pz_fact n) (pz_lab sa p1 j1) gl rw bg sx ro ln wz _) (cwV 0 hts (wz_goodV kw_238 kw_240 kw_1 kw_30 kw_241) rfl rfl rfl (by decide +kernel) ⟨Nat.le_of_ble_eq_true rfl, Nat.le_of_ble_eq_true rfl⟩) (wz_preV (gi := 0) (k := 0) hN hK hQ wz_L_ok rfl rfl rfl) rfl rfl hl.1 rfl (lv_room (Nat.le_of_ble_eq_true rfl)) d_X_label_62 ⟨Nat.le_of_ble_eq_true rfl, Nat.le_of_ble_eq_true rfl⟩) hQ hS hA (fun gx H locs hp hP hD hS => ?_)
            have hp : gx = _ := hp
            subst hp
            obtain ⟨hP, hD⟩ := wz_ord (n := 9) (gs' := [xo_W q ax n (am 0) (pz_lab sa p1 j1) gl (as9 0), se_W q as9 n (am 0) (ag 0) (ab 0) (ac 0) (ak 0) (pz_fact n) rw (nI 0) sx ro (-1) 0, bl_W q ab (am 0) (ag 0) 0 (pz_fact n) f1 w1 e1 z1 y1 d1 m1 c1, bl_W q ac (am 0) (ag 0) 0 (pz_fact n) f2 w2 e2 z2 y2 d2 m2 c2, bl_W q ak (am 0) (ag 0) 6 (pz_fact n) f3 w3 e3 z3 y3 d3 m3 c3, gq_W q ag (am 0) (pz_fact n) (2 ^ b) (32 - b) rl st sl G.length, wz_rows 12 rl (fun i9 => .inl (q.1, pz_fact n, .inl (L i9))), mv_W q am n k rt fo, wz_rows 12 rt (fun i9 => .inl (q.1, 8, .inl (M i9)))]) [0, 1, 2, 3, 4, 5, 6, 7, 8] rfl (by decide) rfl hP hD
            refine lv_iconst (v := nI 1) hx hb d_X_label_65 (by decide) ?_
            exact wz_zret hx hb hr hlocks hK hP hD hS d_X_label_66 (by first | exact Or.inl rfl | exact Or.inr rfl) (Or.inr ⟨rfl, p1, j1, by omega, by omega, rfl, rfl, by rw [if_pos hc4, if_pos hc4]; exact (cx_in ⟨⟨hn1, hn, hk, (pz_lab_lt hsa (by omega) (by omega)), hgl, hb0, hb30, hM⟩, hmv, hgr, ⟨hw1, hw2, hw3⟩, Or.inl rfl, (⟨rfl, rfl⟩ : cx_f none n (-1) 0 rw)⟩)⟩)
          · skip
            refine lv_aload_n hx hb d_X_label_28 rfl (lv_at hl 0 rfl) ?_
            refine lv_aload_n hx hb d_X_label_29 rfl (lv_at hl 0 rfl) ?_
            refine wz_get (v := .int (nI gl)) (T := T_X) (N := 5) hx hb hts i_X hown hK hP 0 0 rfl rfl rfl 3 (by decide) (hts _ kw_213) rfl rfl d_X_label_30 ?_
            refine lv_iload_n hx hb d_X_label_33 rfl (lv_at hl 2 rfl) ?_
            refine lv_iload_n hx hb d_X_label_34 rfl (lv_at hl 3 rfl) ?_
            have hQ := wz_split (n := 9) (gc := []) (gr := [xo_W q ax n (am 0) sa gl (as9 0), se_W q as9 n (am 0) (ag 0) (ab 0) (ac 0) (ak 0) (pz_fact n) rw bg sx ro ln wz, bl_W q ab (am 0) (ag 0) 0 (pz_fact n) f1 w1 e1 z1 y1 d1 m1 c1, bl_W q ac (am 0) (ag 0) 0 (pz_fact n) f2 w2 e2 z2 y2 d2 m2 c2, bl_W q ak (am 0) (ag 0) 6 (pz_fact n) f3 w3 e3 z3 y3 d3 m3 c3, gq_W q ag (am 0) (pz_fact n) (2 ^ b) (32 - b) rl st sl G.length, wz_rows 12 rl (fun i9 => .inl (q.1, pz_fact n, .inl (L i9))), mv_W q am n k rt fo, wz_rows 12 rt (fun i9 => .inl (q.1, 8, .inl (M i9)))]) [] [0, 1, 2, 3, 4, 5, 6, 7, 8] rfl (by decide) rfl rfl hP hD
            refine wz_calli (va_runS (As := [.int (nI gl), .int (nI p1), .int (nI j1)]) (rest := [.ref ax]) ⟨hx, hb, hml, hown, hts⟩ (c_X_labelled l D q n gl p1 j1 hn hgl (by omega) (by omega) _) (va_cwS 3 hts (wz_goodS kw_284 kw_285 kw_30 kw_286) rfl rfl rfl (by decide +kernel) ⟨Nat.le_of_ble_eq_true rfl, Nat.le_of_ble_eq_true rfl⟩) (wz_preS hN hK hQ wz_L_ok) rfl rfl hl.1 rfl (lv_room (Nat.le_of_ble_eq_true rfl)) d_X_label_35 ⟨Nat.le_of_ble_eq_true rfl, Nat.le_of_ble_eq_true rfl⟩) hQ hS hA (fun v_35 gx H locs hp hP hD hS => ?_)
            obtain ⟨rfl, rfl⟩ := hp
            obtain ⟨hP, hD⟩ := wz_ord (n := 9) (gs' := [xo_W q ax n (am 0) sa gl (as9 0), se_W q as9 n (am 0) (ag 0) (ab 0) (ac 0) (ak 0) (pz_fact n) rw bg sx ro ln wz, bl_W q ab (am 0) (ag 0) 0 (pz_fact n) f1 w1 e1 z1 y1 d1 m1 c1, bl_W q ac (am 0) (ag 0) 0 (pz_fact n) f2 w2 e2 z2 y2 d2 m2 c2, bl_W q ak (am 0) (ag 0) 6 (pz_fact n) f3 w3 e3 z3 y3 d3 m3 c3, gq_W q ag (am 0) (pz_fact n) (2 ^ b) (32 - b) rl st sl G.length, wz_rows 12 rl (fun i9 => .inl (q.1, pz_fact n, .inl (L i9))), mv_W q am n k rt fo, wz_rows 12 rt (fun i9 => .inl (q.1, 8, .inl (M i9)))]) [0, 1, 2, 3, 4, 5, 6, 7, 8] rfl (by decide) rfl hP hD
            refine wz_put (gs' := [xo_W q ax n (am 0) sa (pz_lab gl p1 j1) (as9 0), se_W q as9 n (am 0) (ag 0) (ab 0) (ac 0) (ak 0) (pz_fact n) rw bg sx ro ln wz, bl_W q ab (am 0) (ag 0) 0 (pz_fact n) f1 w1 e1 z1 y1 d1 m1 c1, bl_W q ac (am 0) (ag 0) 0 (pz_fact n) f2 w2 e2 z2 y2 d2 m2 c2, bl_W q ak (am 0) (ag 0) 6 (pz_fact n) f3 w3 e3 z3 y3 d3 m3 c3, gq_W q ag (am 0) (pz_fact n) (2 ^ b) (32 - b) rl st sl G.length, wz_rows 12 rl (fun i9 => .inl (q.1, pz_fact n, .inl (L i9))), mv_W q am n k rt fo, wz_rows 12 rt (fun i9 => .inl (q.1, 8, .inl (M i9)))]) (v := .int (nI (pz_lab gl p1 j1))) (T := T_X) (N := 5) hx hb hts i_X t_X t_X_ok n_X hown hK hP hD hS 0 0 rfl rfl rfl 3 (by decide) (hts _ kw_213) rfl rfl (ty := t_X 3) (by decide +kernel) rfl rfl (Nat.le_of_ble_eq_true rfl) d_X_label_38 rfl (fun H locs hP hD hS => ?_)
            refine lv_aload_n hx hb d_X_label_41 rfl (lv_at hl 0 rfl) ?_
            have hQ := wz_split (n := 9) (gc := [xo_W q ax n (am 0) sa (pz_lab gl p1 j1) (as9 0), se_W q as9 n (am 0) (ag 0) (ab 0) (ac 0) (ak 0) (pz_fact n) rw bg sx ro ln wz]) (gr := [bl_W q ab (am 0) (ag 0) 0 (pz_fact n) f1 w1 e1 z1 y1 d1 m1 c1, bl_W q ac (am 0) (ag 0) 0 (pz_fact n) f2 w2 e2 z2 y2 d2 m2 c2, bl_W q ak (am 0) (ag 0) 6 (pz_fact n) f3 w3 e3 z3 y3 d3 m3 c3, gq_W q ag (am 0) (pz_fact n) (2 ^ b) (32 - b) rl st sl G.length, wz_rows 12 rl (fun i9 => .inl (q.1, pz_fact n, .inl (L i9))), mv_W q am n k rt fo, wz_rows 12 rt (fun i9 => .inl (q.1, 8, .inl (M i9)))]) [0, 1] [2, 3, 4, 5, 6, 7, 8] rfl (by decide) rfl rfl hP hD
            refine wz_callv (va_runV (As := []) (rest := []) ⟨hx, hb, hml, hown, hts⟩ (c_X_forgetFound l D q ax as9 n (am 0) (ag 0) (ab 0) (ac 0) (ak 0) (pz_fact n) sa (pz_lab gl p1 j1) rw bg sx ro ln wz _) (cwV 0 hts (wz_goodV kw_287 kw_289 kw_4 kw_30 kw_290) rfl rfl rfl (by decide +kernel) ⟨Nat.le_of_ble_eq_true rfl, Nat.le_of_ble_eq_true rfl⟩) (wz_preV (gi := 0) (k := 0) hN hK hQ wz_L_ok rfl rfl rfl) rfl rfl hl.1 rfl (lv_room (Nat.le_of_ble_eq_true rfl)) d_X_label_42 ⟨Nat.le_of_ble_eq_true rfl, Nat.le_of_ble_eq_true rfl⟩) hQ hS hA (fun gx H locs hp hP hD hS => ?_)
            have hp : gx = _ := hp
            subst hp
            obtain ⟨hP, hD⟩ := wz_ord (n := 9) (gs' := [xo_W q ax n (am 0) sa (pz_lab gl p1 j1) (as9 0), se_W q as9 n (am 0) (ag 0) (ab 0) (ac 0) (ak 0) (pz_fact n) rw bg sx ro (-1) 0, bl_W q ab (am 0) (ag 0) 0 (pz_fact n) f1 w1 e1 z1 y1 d1 m1 c1, bl_W q ac (am 0) (ag 0) 0 (pz_fact n) f2 w2 e2 z2 y2 d2 m2 c2, bl_W q ak (am 0) (ag 0) 6 (pz_fact n) f3 w3 e3 z3 y3 d3 m3 c3, gq_W q ag (am 0) (pz_fact n) (2 ^ b) (32 - b) rl st sl G.length, wz_rows 12 rl (fun i9 => .inl (q.1, pz_fact n, .inl (L i9))), mv_W q am n k rt fo, wz_rows 12 rt (fun i9 => .inl (q.1, 8, .inl (M i9)))]) [0, 1, 2, 3, 4, 5, 6, 7, 8] rfl (by decide) rfl hP hD
            refine lv_goto (tgt := 65) hx hb d_X_label_45 (by decide) ?_
            refine lv_iconst (v := nI 1) hx hb d_X_label_65 (by decide) ?_
            exact wz_zret hx hb hr hlocks hK hP hD hS d_X_label_66 (by first | exact Or.inl rfl | exact Or.inr rfl) (Or.inr ⟨rfl, p1, j1, by omega, by omega, rfl, rfl, by rw [if_neg hc4, if_neg hc4]; exact (cx_in ⟨⟨hn1, hn, hk, hsa, (pz_lab_lt hgl (by omega) (by omega)), hb0, hb30, hM⟩, hmv, hgr, ⟨hw1, hw2, hw3⟩, hbg, (⟨rfl, rfl⟩ : cx_f none n (-1) 0 rw)⟩)⟩)
        · skip
          refine lv_iconst (v := nI 0) hx hb d_X_label_22 (by decide) ?_
          exact wz_zret hx hb hr hlocks hK hP hD hS d_X_label_23 (by first | exact Or.inl rfl | exact Or.inr rfl) (Or.inl ⟨rfl, (cx_in ⟨⟨hn1, hn, hk, hsa, hgl, hb0, hb30, hM⟩, hmv, hgr, ⟨hw1, hw2, hw3⟩, hbg, hF⟩), fun ⟨p2, j1, q⟩ => hc3 (by rw [q.2.2.2]; exact nI_le (b := 7) (by have := q.2.1; omega) (by decide))⟩)
def po_X_replay (q : wz_Q) (ax n k : Nat) (sg tu : Nat → Nat → Nat) (od : Nat → Nat) (sa gl : Nat) (F : cx_F) (x : Int64) : Int32 → wz_G → Prop := fun v w => cx q ax n k sg tu od sa gl F w ∧ ((x < 0 ∧ v = 0) ∨ ∃ r9, r9 < 2 ^ 63 ∧ x = lN r9 ∧ wz_bit v (zrep k (fun m => pz_act n (tu m)) gl 21 r9 sa))
set_option maxHeartbeats 4000000 in
set_option maxRecDepth 100000 in
/-- does a row lead from start to goal -/
theorem c_X_replay (l : Launch) (D : va_G) (q : wz_Q) (ax n k : Nat) (sg tu : Nat → Nat → Nat) (od : Nat → Nat) (sa gl : Nat) (F : cx_F) (x : Int64) (WW : wz_G) (hW : cx q ax n k sg tu od sa gl F WW) : wz_Mi l y_X_replay ws_X_replay ({ frames := 1, cells := 0, slots := 0, locals := 26 } : Room) D q ([.ref ax, .long x] : List Value) WW (po_X_replay q ax n k sg tu od sa gl F x) 0 0 := by
  obtain ⟨as9, ab, ac, ak, ag, am, b, rl, rt, fo, M, rw, bg, sx, ro, ln, wz, G, st, sl, L, f1, w1, e1, z1, y1, d1, m1, c1, f2, w2, e2, z2, y2, d2, m2, c2, f3, w3, e3, z3, y3, d3, m3, c3, rfl, ⟨hn1, hn, hk, hsa, hgl, hb0, hb30, hM⟩, hmv, hgr, ⟨hw1, hw2, hw3⟩, hbg, hF⟩ := hW
  have hfl := pz_fact_le hn
  intro sz9
  refine wz_enter (cc := b_X_replay) (maxL := 8) (ret := (some .boolean)) (Qc := fun A => (va_Qi (po_X_replay q ax n k sg tu od sa gl F x) (wz_At D q A) A)) (by decide) (Nat.le_of_ble_eq_true rfl) ?_
  intro p e s m below meth c A ls C hP hD hS hl
  obtain ⟨hx, hb, hr, hml, hlocks, hown, hts, hN, hK, hA, hnm⟩ := C
  have hown : s.vm.findClass "TwoEndSearch" = some m.cls := hown
  have hl : lv_has ls 8 [(0, .ref ax), (1, .long x)] := hl
  refine lv_lload_n hx hb d_X_replay_0 rfl (lv_at hl 1 rfl) ?_
  refine lv_lconst (v := 0) hx hb d_X_replay_1 rfl ?_
  refine W.lcmp hx hb d_X_replay_2 ?_
  refine lv_if_ge (tgt := 8) hx hb d_X_replay_3 (by decide) (fun hc => ?_) (fun hc => ?_)
  · skip
    obtain ⟨r9, hr9, rfl⟩ := pk_lOf (wz_cmp_ge0.mp hc)
    refine lv_aload_n hx hb d_X_replay_8 rfl (lv_at hl 0 rfl) ?_
    refine wz_get (v := .int (nI sa)) (T := T_X) (N := 5) hx hb hts i_X hown hK hP 0 0 rfl rfl rfl 2 (by decide) (hts _ kw_212) rfl rfl d_X_replay_9 ?_
    refine lv_istore_n (lv' := [(3, .int (nI sa)), (0, .ref ax), (1, .long (lN r9))]) hx hb d_X_replay_12 rfl hl (by decide) rfl (fun ls hl => ?_)
    refine lv_lload_n hx hb d_X_replay_13 rfl (lv_at hl 2 rfl) ?_
    refine lv_lstore (lv' := [(4, .long (lN r9)), (3, .int (nI sa)), (0, .ref ax), (1, .long (lN r9))]) hx hb d_X_replay_14 hl (by decide) rfl (fun ls hl => ?_)
    refine lv_iconst (v := nI 0) hx hb d_X_replay_16 (by decide) ?_
    refine lv_istore (lv' := [(6, .int (nI 0)), (4, .long (lN r9)), (3, .int (nI sa)), (0, .ref ax), (1, .long (lN r9))]) hx hb d_X_replay_17 hl (by decide) rfl (fun ls hl => ?_)
    have loop : ∀ (d : Nat) (t u9 c9 : Nat), t ≤ 21 → 22 ≤ t + d → u9 < 2 ^ 63 → c9 < 8 ^ n → (zrep k (fun m => pz_act n (tu m)) gl 21 r9 sa ↔ zrep k (fun m => pz_act n (tu m)) gl (21 - t) u9 c9) → ∀ (H : Heap) (locs : List Loc) (ls : Array Slot), va_P D vwCl ([xo_W q ax n (am 0) sa gl (as9 0), se_W q as9 n (am 0) (ag 0) (ab 0) (ac 0) (ak 0) (pz_fact n) rw bg sx ro ln wz, bl_W q ab (am 0) (ag 0) 0 (pz_fact n) f1 w1 e1 z1 y1 d1 m1 c1, bl_W q ac (am 0) (ag 0) 0 (pz_fact n) f2 w2 e2 z2 y2 d2 m2 c2, bl_W q ak (am 0) (ag 0) 6 (pz_fact n) f3 w3 e3 z3 y3 d3 m3 c3, gq_W q ag (am 0) (pz_fact n) (2 ^ b) (32 - b) rl st sl G.length, wz_rows 12 rl (fun i9 => .inl (q.1, pz_fact n, .inl (L i9))), mv_W q am n k rt fo, wz_rows 12 rt (fun i9 => .inl (q.1, 8, .inl (M i9)))] : wz_G).flatten H → va_D A ([xo_W q ax n (am 0) sa gl (as9 0), se_W q as9 n (am 0) (ag 0) (ab 0) (ac 0) (ak 0) (pz_fact n) rw bg sx ro ln wz, bl_W q ab (am 0) (ag 0) 0 (pz_fact n) f1 w1 e1 z1 y1 d1 m1 c1, bl_W q ac (am 0) (ag 0) 0 (pz_fact n) f2 w2 e2 z2 y2 d2 m2 c2, bl_W q ak (am 0) (ag 0) 6 (pz_fact n) f3 w3 e3 z3 y3 d3 m3 c3, gq_W q ag (am 0) (pz_fact n) (2 ^ b) (32 - b) rl st sl G.length, wz_rows 12 rl (fun i9 => .inl (q.1, pz_fact n, .inl (L i9))), mv_W q am n k rt fo, wz_rows 12 rt (fun i9 => .inl (q.1, 8, .inl (M i9)))] : wz_G).flatten → va_S A s.heap H locs → lv_has ls 8 [(0, .ref ax), (1, .long (lN r9)), (3, .int (nI c9)), (4, .long (lN u9)), (6, .int (nI t))] → W p l e ({ frames := 1, cells := 0, slots := 0, locals := 26 } : Room) s m ([.ref ax, .long (lN r9)] : List Value).toArray below meth c H locs 0 0 (MQ below (va_Qi (po_X_replay q ax n k sg tu od sa gl F (lN r9)) (wz_At D q A) A) ([.ref ax, .long (lN r9)] : List Value).toArray s 0 0 A) (F0 m 19 ls []) := by
      intro d
      induction d with
      | zero =>
        intro t u9 c9 ht hd hu hc8 heq
        omega
      | succ d ih =>
        intro t u9 c9 ht hd hu hc8 heq H locs ls hP hD hS hl
        refine lv_iload hx hb d_X_replay_19 (lv_at hl 4 rfl) ?_
        refine lv_bipush (v := nI 21) hx hb d_X_replay_21 (by decide) ?_
        refine wz_ge (tgt := 100) hx hb d_X_replay_23 (by decide) (by omega) (by omega) (fun hc2 => ?_) (fun hc2 => ?_)
        · skip
          have ht21 : 21 - t = 0 := by omega
          rw [ht21] at heq
          refine lv_iconst (v := nI 0) hx hb d_X_replay_100 (by decide) ?_
          exact wz_zret hx hb hr hlocks hK hP hD hS d_X_replay_101 (by first | exact Or.inl rfl | exact Or.inr rfl) ⟨(cx_in ⟨⟨hn1, hn, hk, hsa, hgl, hb0, hb30, hM⟩, hmv, hgr, ⟨hw1, hw2, hw3⟩, hbg, hF⟩), Or.inr ⟨r9, hr9, rfl, Or.inr ⟨rfl, fun q => heq.mp q⟩⟩⟩
        · skip
          obtain ⟨f8, hf8⟩ : ∃ f8, 21 - t = f8 + 1 := ⟨20 - t, by omega⟩
          rw [hf8] at heq
          have hum : u9 % 8 < 8 := Nat.mod_lt _ (by decide)
          have hc24 := pz_lt31 hn hc8
          have hg24 := pz_lt31 hn hgl
          refine lv_lload hx hb d_X_replay_26 (lv_at hl 3 rfl) ?_
          refine lv_ldc2 (v := (7)) hx hb hown (hts _ kw_436) d_X_replay_28 ?_
          refine lv_land hx hb d_X_replay_31 ?_
          refine wz_topl (y := lN (u9 % 8)) (zr_and7 hu) ?_
          refine lv_l2i (v := nI (u9 % 8)) hx hb d_X_replay_32 (lN_i _) ?_
          refine lv_istore (lv' := [(7, .int (nI (u9 % 8))), (0, .ref ax), (1, .long (lN r9)), (3, .int (nI c9)), (4, .long (lN u9)), (6, .int (nI t))]) hx hb d_X_replay_33 hl (by decide) rfl (fun ls hl => ?_)
          refine lv_lload hx hb d_X_replay_35 (lv_at hl 4 rfl) ?_
          refine lv_iconst (v := nI 3) hx hb d_X_replay_37 (by decide) ?_
          refine lv_lushr (v := lN (u9 / 8)) hx hb d_X_replay_38 (zr_shr3 hu) ?_
          refine lv_lstore (lv' := [(4, .long (lN (u9 / 8))), (7, .int (nI (u9 % 8))), (0, .ref ax), (1, .long (lN r9)), (3, .int (nI c9)), (6, .int (nI t))]) hx hb d_X_replay_39 hl (by decide) rfl (fun ls hl => ?_)
          refine lv_iload hx hb d_X_replay_41 (lv_at hl 1 rfl) ?_
          refine lv_bipush (v := nI 7) hx hb d_X_replay_43 (by decide) ?_
          refine wz_ne (tgt := 69) hx hb d_X_replay_45 (by decide) (by omega) (by omega) (fun hc3 => ?_) (fun hc3 => ?_)
          · skip
            refine lv_aload_n hx hb d_X_replay_69 rfl (lv_at hl 2 rfl) ?_
            refine wz_get (v := .ref (am 0)) (T := T_X) (N := 5) hx hb hts i_X hown hK hP 0 0 rfl rfl rfl 1 (by decide) (hts _ kw_211) rfl rfl d_X_replay_70 ?_
            refine lv_iload hx hb d_X_replay_73 (lv_at hl 1 rfl) ?_
            have hQ := wz_split (n := 9) (gc := [mv_W q am n k rt fo]) (gr := [xo_W q ax n (am 0) sa gl (as9 0), se_W q as9 n (am 0) (ag 0) (ab 0) (ac 0) (ak 0) (pz_fact n) rw bg sx ro ln wz, bl_W q ab (am 0) (ag 0) 0 (pz_fact n) f1 w1 e1 z1 y1 d1 m1 c1, bl_W q ac (am 0) (ag 0) 0 (pz_fact n) f2 w2 e2 z2 y2 d2 m2 c2, bl_W q ak (am 0) (ag 0) 6 (pz_fact n) f3 w3 e3 z3 y3 d3 m3 c3, gq_W q ag (am 0) (pz_fact n) (2 ^ b) (32 - b) rl st sl G.length, wz_rows 12 rl (fun i9 => .inl (q.1, pz_fact n, .inl (L i9))), wz_rows 12 rt (fun i9 => .inl (q.1, 8, .inl (M i9)))]) [7] [0, 1, 2, 3, 4, 5, 6, 8] rfl (by decide) rfl rfl hP hD
            refine wz_calli (va_runV (As := [.int (nI (u9 % 8))]) (rest := []) ⟨hx, hb, hml, hown, hts⟩ (c_M_has l D q am n k rt fo (nI (u9 % 8)) hk _) (cwV 1 hts (wz_goodV kw_275 kw_255 kw_256 kw_32 kw_257) rfl rfl rfl (by decide +kernel) ⟨Nat.le_of_ble_eq_true rfl, Nat.le_of_ble_eq_true rfl⟩) (wz_preV (gi := 0) (k := 0) hN hK hQ wz_L_ok rfl rfl rfl) rfl rfl hl.1 rfl (lv_room (Nat.le_of_ble_eq_true rfl)) d_X_replay_75 ⟨Nat.le_of_ble_eq_true rfl, Nat.le_of_ble_eq_true rfl⟩) hQ hS hA (fun v_75 gx H locs hp0 hP hD hS => ?_)
            obtain ⟨rfl, hp0⟩ := hp0
            obtain ⟨hP, hD⟩ := wz_ord (n := 9) (gs' := [xo_W q ax n (am 0) sa gl (as9 0), se_W q as9 n (am 0) (ag 0) (ab 0) (ac 0) (ak 0) (pz_fact n) rw bg sx ro ln wz, bl_W q ab (am 0) (ag 0) 0 (pz_fact n) f1 w1 e1 z1 y1 d1 m1 c1, bl_W q ac (am 0) (ag 0) 0 (pz_fact n) f2 w2 e2 z2 y2 d2 m2 c2, bl_W q ak (am 0) (ag 0) 6 (pz_fact n) f3 w3 e3 z3 y3 d3 m3 c3, gq_W q ag (am 0) (pz_fact n) (2 ^ b) (32 - b) rl st sl G.length, wz_rows 12 rl (fun i9 => .inl (q.1, pz_fact n, .inl (L i9))), mv_W q am n k rt fo, wz_rows 12 rt (fun i9 => .inl (q.1, 8, .inl (M i9)))]) [1, 2, 3, 4, 5, 6, 7, 0, 8] rfl (by decide) rfl hP hD
            refine lv_if_ne (tgt := 83) hx hb d_X_replay_78 (by decide) (fun hc4 => ?_) (fun hc4 => ?_)
            · skip
              have hmk : u9 % 8 < k := by
                obtain ⟨j, hj, e0⟩ := wz_bit_1 hp0 hc4
                rw [(nI_eq (by omega) (by omega)).mp e0]; exact hj
              have hE := heq.trans (zrep_on hc3 hmk)
              refine lv_aload_n hx hb d_X_replay_83 rfl (lv_at hl 2 rfl) ?_
              refine wz_get (v := .ref (am 0)) (T := T_X) (N := 5) hx hb hts i_X hown hK hP 0 0 rfl rfl rfl 1 (by decide) (hts _ kw_211) rfl rfl d_X_replay_84 ?_
              refine lv_iload hx hb d_X_replay_87 (lv_at hl 1 rfl) ?_
              refine lv_iload_n hx hb d_X_replay_89 rfl (lv_at hl 4 rfl) ?_
              have hQ := wz_split (n := 9) (gc := [mv_W q am n k rt fo, wz_rows 12 rt (fun i9 => .inl (q.1, 8, .inl (M i9)))]) (gr := [xo_W q ax n (am 0) sa gl (as9 0), se_W q as9 n (am 0) (ag 0) (ab 0) (ac 0) (ak 0) (pz_fact n) rw bg sx ro ln wz, bl_W q ab (am 0) (ag 0) 0 (pz_fact n) f1 w1 e1 z1 y1 d1 m1 c1, bl_W q ac (am 0) (ag 0) 0 (pz_fact n) f2 w2 e2 z2 y2 d2 m2 c2, bl_W q ak (am 0) (ag 0) 6 (pz_fact n) f3 w3 e3 z3 y3 d3 m3 c3, gq_W q ag (am 0) (pz_fact n) (2 ^ b) (32 - b) rl st sl G.length, wz_rows 12 rl (fun i9 => .inl (q.1, pz_fact n, .inl (L i9)))]) [7, 8] [0, 1, 2, 3, 4, 5, 6] rfl (by decide) rfl rfl hP hD
              refine wz_calli (va_runV (As := [.int (nI (u9 % 8)), .int (nI c9)]) (rest := []) ⟨hx, hb, hml, hown, hts⟩ (c_M_bring l D q am n k rt fo M (u9 % 8) c9 (sg (u9 % 8)) (tu (u9 % 8)) hn (by omega) hc8 (fun p hp => ((hmv _ hmk).2.2.2 p hp).1) (hmv _ hmk).1 _) (cwV 2 hts (wz_goodV kw_437 kw_268 kw_269 kw_32 kw_270) rfl rfl rfl (by decide +kernel) ⟨Nat.le_of_ble_eq_true rfl, Nat.le_of_ble_eq_true rfl⟩) (wz_preV (gi := 0) (k := 0) hN hK hQ wz_L_ok rfl rfl rfl) rfl rfl hl.1 rfl (lv_room (Nat.le_of_ble_eq_true rfl)) d_X_replay_90 ⟨Nat.le_of_ble_eq_true rfl, Nat.le_of_ble_eq_true rfl⟩) hQ hS hA (fun v_90 gx H locs hp hP hD hS => ?_)
              obtain ⟨rfl, rfl⟩ := hp
              obtain ⟨hP, hD⟩ := wz_ord (n := 9) (gs' := [xo_W q ax n (am 0) sa gl (as9 0), se_W q as9 n (am 0) (ag 0) (ab 0) (ac 0) (ak 0) (pz_fact n) rw bg sx ro ln wz, bl_W q ab (am 0) (ag 0) 0 (pz_fact n) f1 w1 e1 z1 y1 d1 m1 c1, bl_W q ac (am 0) (ag 0) 0 (pz_fact n) f2 w2 e2 z2 y2 d2 m2 c2, bl_W q ak (am 0) (ag 0) 6 (pz_fact n) f3 w3 e3 z3 y3 d3 m3 c3, gq_W q ag (am 0) (pz_fact n) (2 ^ b) (32 - b) rl st sl G.length, wz_rows 12 rl (fun i9 => .inl (q.1, pz_fact n, .inl (L i9))), mv_W q am n k rt fo, wz_rows 12 rt (fun i9 => .inl (q.1, 8, .inl (M i9)))]) [2, 3, 4, 5, 6, 7, 8, 0, 1] rfl (by decide) rfl hP hD
              refine lv_istore_n (lv' := [(3, .int (nI (pz_act n (tu (u9 % 8)) c9))), (4, .long (lN (u9 / 8))), (7, .int (nI (u9 % 8))), (0, .ref ax), (1, .long (lN r9)), (6, .int (nI t))]) hx hb d_X_replay_93 rfl hl (by decide) rfl (fun ls hl => ?_)
              refine lv_iinc (v := nI (t + 1)) (lv' := [(6, .int (nI (t + 1))), (3, .int (nI (pz_act n (tu (u9 % 8)) c9))), (4, .long (lN (u9 / 8))), (7, .int (nI (u9 % 8))), (0, .ref ax), (1, .long (lN r9))]) hx hb d_X_replay_94 hl (k := 5) rfl (nI_1 t) (by decide) rfl (fun ls hl => ?_)
              refine lv_goto (tgt := 19) hx hb d_X_replay_97 (by decide) ?_
              exact ih (t + 1) (u9 / 8) (pz_act n (tu (u9 % 8)) c9) (by omega) (by omega) (by omega) (pz_act_lt hc8) (by rw [show 21 - (t + 1) = f8 by omega]; exact hE) _ _ _ hP hD hS (lv_sub hl [4, 5, 1, 2, 0] rfl)
            · skip
              refine lv_iconst (v := nI 0) hx hb d_X_replay_81 (by decide) ?_
              exact wz_zret hx hb hr hlocks hK hP hD hS d_X_replay_82 (by first | exact Or.inl rfl | exact Or.inr rfl) ⟨(cx_in ⟨⟨hn1, hn, hk, hsa, hgl, hb0, hb30, hM⟩, hmv, hgr, ⟨hw1, hw2, hw3⟩, hbg, hF⟩), Or.inr ⟨r9, hr9, rfl, Or.inr ⟨rfl, fun q => zrep_no hc3 (fun q2 => wz_bit_0 hp0 hc4 ⟨_, q2, rfl⟩) (heq.mp q)⟩⟩⟩
          · skip
            have hE := heq.trans (zrep_end hc3)
            refine lv_lload hx hb d_X_replay_48 (lv_at hl 0 rfl) ?_
            refine lv_lconst (v := 0) hx hb d_X_replay_50 rfl ?_
            refine W.lcmp hx hb d_X_replay_51 ?_
            refine lv_if_ne (tgt := 67) hx hb d_X_replay_52 (by decide) (fun hc4 => ?_) (fun hc4 => ?_)
            · skip
              refine lv_iconst (v := nI 0) hx hb d_X_replay_67 (by decide) ?_
              exact wz_zret hx hb hr hlocks hK hP hD hS d_X_replay_68 (by first | exact Or.inl rfl | exact Or.inr rfl) ⟨(cx_in ⟨⟨hn1, hn, hk, hsa, hgl, hb0, hb30, hM⟩, hmv, hgr, ⟨hw1, hw2, hw3⟩, hbg, hF⟩), Or.inr ⟨r9, hr9, rfl, Or.inr ⟨rfl, fun q => hc4 ((wz_cmp_eq (b := 0) (by omega) (by decide)).mpr (hE.mp q).1)⟩⟩⟩
            · skip
              refine lv_iload_n hx hb d_X_replay_55 rfl (lv_at hl 4 rfl) ?_
              refine lv_aload_n hx hb d_X_replay_56 rfl (lv_at hl 2 rfl) ?_
              refine wz_get (v := .int (nI gl)) (T := T_X) (N := 5) hx hb hts i_X hown hK hP 0 0 rfl rfl rfl 3 (by decide) (hts _ kw_213) rfl rfl d_X_replay_57 ?_
              refine wz_ne (tgt := 67) hx hb d_X_replay_60 (by decide) (by omega) (by omega) (fun hc5 => ?_) (fun hc5 => ?_)
              · skip
                refine lv_iconst (v := nI 0) hx hb d_X_replay_67 (by decide) ?_
                exact wz_zret hx hb hr hlocks hK hP hD hS d_X_replay_68 (by first | exact Or.inl rfl | exact Or.inr rfl) ⟨(cx_in ⟨⟨hn1, hn, hk, hsa, hgl, hb0, hb30, hM⟩, hmv, hgr, ⟨hw1, hw2, hw3⟩, hbg, hF⟩), Or.inr ⟨r9, hr9, rfl, Or.inr ⟨rfl, fun q => hc5 (hE.mp q).2⟩⟩⟩
              · skip
                refine lv_iconst (v := nI 1) hx hb d_X_replay_63 (by decide) ?_
                refine lv_goto (tgt := 68) hx hb d_X_replay_64 (by decide) ?_
                exact wz_zret hx hb hr hlocks hK hP hD hS d_X_replay_68 (by first | exact Or.inl rfl | exact Or.inr rfl) ⟨(cx_in ⟨⟨hn1, hn, hk, hsa, hgl, hb0, hb30, hM⟩, hmv, hgr, ⟨hw1, hw2, hw3⟩, hbg, hF⟩), Or.inr ⟨r9, hr9, rfl, Or.inl ⟨rfl, hE.mpr ⟨(wz_cmp_eq (b := 0) (by omega) (by decide)).mp hc4, hc5⟩⟩⟩⟩
    exact loop 22 0 r9 sa (by omega) (by omega) hr9 hsa Iff.rfl _ _ _ hP hD hS (lv_sub hl [3, 4, 2, 1, 0] rfl)
  · skip
    refine lv_iconst (v := nI 0) hx hb d_X_replay_6 (by decide) ?_
    exact wz_zret hx hb hr hlocks hK hP hD hS d_X_replay_7 (by first | exact Or.inl rfl | exact Or.inr rfl) ⟨(cx_in ⟨⟨hn1, hn, hk, hsa, hgl, hb0, hb30, hM⟩, hmv, hgr, ⟨hw1, hw2, hw3⟩, hbg, hF⟩), Or.inl ⟨by
      have h1 : ¬ (0 : Int32) ≤ lg_cmp x 0 := hc
      rw [wz_cmp_ge0] at h1
      exact Decidable.not_not.mp h1, rfl⟩⟩
