theorem d_B_reachFrom_0 : decode b_B_reachFrom 0 = .ok (.aload_n 0, 1) := by decide +kernel
theorem d_B_reachFrom_1 : decode b_B_reachFrom 1 = .ok (.getfield 21, 3) := by decide +kernel
theorem d_B_reachFrom_4 : decode b_B_reachFrom 4 = .ok (.aload_n 0, 1) := by decide +kernel
theorem d_B_reachFrom_5 : decode b_B_reachFrom 5 = .ok (.getfield 46, 3) := by decide +kernel
theorem d_B_reachFrom_8 : decode b_B_reachFrom 8 = .ok (.iload_n 2, 1) := by decide +kernel
theorem d_B_reachFrom_9 : decode b_B_reachFrom 9 = .ok (.invokevirtual 83, 3) := by decide +kernel
theorem d_B_reachFrom_12 : decode b_B_reachFrom 12 = .ok (.istore_n 3, 1) := by decide +kernel
theorem d_B_reachFrom_13 : decode b_B_reachFrom 13 = .ok (.iload_n 1, 1) := by decide +kernel
theorem d_B_reachFrom_14 : decode b_B_reachFrom 14 = .ok (.istore 4, 2) := by decide +kernel
theorem d_B_reachFrom_16 : decode b_B_reachFrom 16 = .ok (.iconst 1, 1) := by decide +kernel
theorem d_B_reachFrom_17 : decode b_B_reachFrom 17 = .ok (.istore 5, 2) := by decide +kernel
theorem d_B_reachFrom_19 : decode b_B_reachFrom 19 = .ok (.iload 5, 2) := by decide +kernel
theorem d_B_reachFrom_21 : decode b_B_reachFrom 21 = .ok (.iload_n 3, 1) := by decide +kernel
theorem d_B_reachFrom_22 : decode b_B_reachFrom 22 = .ok (.if_icmp .gt 81, 3) := by decide +kernel
theorem d_B_reachFrom_25 : decode b_B_reachFrom 25 = .ok (.aload_n 0, 1) := by decide +kernel
theorem d_B_reachFrom_26 : decode b_B_reachFrom 26 = .ok (.getfield 9, 3) := by decide +kernel
theorem d_B_reachFrom_29 : decode b_B_reachFrom 29 = .ok (.aload_n 0, 1) := by decide +kernel
theorem d_B_reachFrom_30 : decode b_B_reachFrom 30 = .ok (.getfield 22, 3) := by decide +kernel
theorem d_B_reachFrom_33 : decode b_B_reachFrom 33 = .ok (.iload_n 2, 1) := by decide +kernel
theorem d_B_reachFrom_34 : decode b_B_reachFrom 34 = .ok (.iadd, 1) := by decide +kernel
theorem d_B_reachFrom_35 : decode b_B_reachFrom 35 = .ok (.iload 4, 2) := by decide +kernel
theorem d_B_reachFrom_37 : decode b_B_reachFrom 37 = .ok (.invokevirtual 87, 3) := by decide +kernel
theorem d_B_reachFrom_40 : decode b_B_reachFrom 40 = .ok (.istore 4, 2) := by decide +kernel
theorem d_B_reachFrom_42 : decode b_B_reachFrom 42 = .ok (.aload_n 0, 1) := by decide +kernel
theorem d_B_reachFrom_43 : decode b_B_reachFrom 43 = .ok (.getfield 26, 3) := by decide +kernel
theorem d_B_reachFrom_46 : decode b_B_reachFrom 46 = .ok (.iload 4, 2) := by decide +kernel
theorem d_B_reachFrom_48 : decode b_B_reachFrom 48 = .ok (.iaload, 1) := by decide +kernel
theorem d_B_reachFrom_49 : decode b_B_reachFrom 49 = .ok (.iconst (-1), 1) := by decide +kernel
theorem d_B_reachFrom_50 : decode b_B_reachFrom 50 = .ok (.if_icmp .ne 15, 3) := by decide +kernel
theorem d_B_reachFrom_53 : decode b_B_reachFrom 53 = .ok (.aload_n 0, 1) := by decide +kernel
theorem d_B_reachFrom_54 : decode b_B_reachFrom 54 = .ok (.iload 4, 2) := by decide +kernel
theorem d_B_reachFrom_56 : decode b_B_reachFrom 56 = .ok (.aload_n 0, 1) := by decide +kernel
theorem d_B_reachFrom_57 : decode b_B_reachFrom 57 = .ok (.getfield 52, 3) := by decide +kernel
theorem d_B_reachFrom_60 : decode b_B_reachFrom 60 = .ok (.iconst 1, 1) := by decide +kernel
theorem d_B_reachFrom_61 : decode b_B_reachFrom 61 = .ok (.iadd, 1) := by decide +kernel
theorem d_B_reachFrom_62 : decode b_B_reachFrom 62 = .ok (.invokevirtual 59, 3) := by decide +kernel
theorem d_B_reachFrom_65 : decode b_B_reachFrom 65 = .ok (.aload_n 0, 1) := by decide +kernel
theorem d_B_reachFrom_66 : decode b_B_reachFrom 66 = .ok (.getfield 26, 3) := by decide +kernel
theorem d_B_reachFrom_69 : decode b_B_reachFrom 69 = .ok (.iload 4, 2) := by decide +kernel
theorem d_B_reachFrom_71 : decode b_B_reachFrom 71 = .ok (.iaload, 1) := by decide +kernel
theorem d_B_reachFrom_72 : decode b_B_reachFrom 72 = .ok (.aload_n 0, 1) := by decide +kernel
theorem d_B_reachFrom_73 : decode b_B_reachFrom 73 = .ok (.getfield 52, 3) := by decide +kernel
theorem d_B_reachFrom_76 : decode b_B_reachFrom 76 = .ok (.iconst 1, 1) := by decide +kernel
theorem d_B_reachFrom_77 : decode b_B_reachFrom 77 = .ok (.iadd, 1) := by decide +kernel
theorem d_B_reachFrom_78 : decode b_B_reachFrom 78 = .ok (.if_icmp .ne 19, 3) := by decide +kernel
theorem d_B_reachFrom_81 : decode b_B_reachFrom 81 = .ok (.aload_n 0, 1) := by decide +kernel
theorem d_B_reachFrom_82 : decode b_B_reachFrom 82 = .ok (.getfield 36, 3) := by decide +kernel
theorem d_B_reachFrom_85 : decode b_B_reachFrom 85 = .ok (.iload 4, 2) := by decide +kernel
theorem d_B_reachFrom_87 : decode b_B_reachFrom 87 = .ok (.dup2, 1) := by decide +kernel
theorem d_B_reachFrom_88 : decode b_B_reachFrom 88 = .ok (.laload, 1) := by decide +kernel
theorem d_B_reachFrom_89 : decode b_B_reachFrom 89 = .ok (.aload_n 0, 1) := by decide +kernel
theorem d_B_reachFrom_90 : decode b_B_reachFrom 90 = .ok (.getfield 36, 3) := by decide +kernel
theorem d_B_reachFrom_93 : decode b_B_reachFrom 93 = .ok (.iload_n 1, 1) := by decide +kernel
theorem d_B_reachFrom_94 : decode b_B_reachFrom 94 = .ok (.laload, 1) := by decide +kernel
theorem d_B_reachFrom_95 : decode b_B_reachFrom 95 = .ok (.ladd, 1) := by decide +kernel
theorem d_B_reachFrom_96 : decode b_B_reachFrom 96 = .ok (.lastore, 1) := by decide +kernel
theorem d_B_reachFrom_97 : decode b_B_reachFrom 97 = .ok (.iinc 5 1, 3) := by decide +kernel
theorem d_B_reachFrom_100 : decode b_B_reachFrom 100 = .ok (.goto (-81), 3) := by decide +kernel
theorem d_B_reachFrom_103 : decode b_B_reachFrom 103 = .ok (.return_, 1) := by decide +kernel
theorem d_B_grow_0 : decode b_B_grow 0 = .ok (.aload_n 0, 1) := by decide +kernel
theorem d_B_grow_1 : decode b_B_grow 1 = .ok (.getfield 43, 3) := by decide +kernel
theorem d_B_grow_4 : decode b_B_grow 4 = .ok (.istore_n 1, 1) := by decide +kernel
theorem d_B_grow_5 : decode b_B_grow 5 = .ok (.aload_n 0, 1) := by decide +kernel
theorem d_B_grow_6 : decode b_B_grow 6 = .ok (.getfield 49, 3) := by decide +kernel
theorem d_B_grow_9 : decode b_B_grow 9 = .ok (.istore_n 2, 1) := by decide +kernel
theorem d_B_grow_10 : decode b_B_grow 10 = .ok (.iload_n 2, 1) := by decide +kernel
theorem d_B_grow_11 : decode b_B_grow 11 = .ok (.iload_n 1, 1) := by decide +kernel
theorem d_B_grow_12 : decode b_B_grow 12 = .ok (.if_icmp .ge 46, 3) := by decide +kernel
theorem d_B_grow_15 : decode b_B_grow 15 = .ok (.aload_n 0, 1) := by decide +kernel
theorem d_B_grow_16 : decode b_B_grow 16 = .ok (.getfield 55, 3) := by decide +kernel
theorem d_B_grow_19 : decode b_B_grow 19 = .ok (.ifCond .ne 39, 3) := by decide +kernel
theorem d_B_grow_22 : decode b_B_grow 22 = .ok (.iconst 0, 1) := by decide +kernel
theorem d_B_grow_23 : decode b_B_grow 23 = .ok (.istore_n 3, 1) := by decide +kernel
theorem d_B_grow_24 : decode b_B_grow 24 = .ok (.iload_n 3, 1) := by decide +kernel
theorem d_B_grow_25 : decode b_B_grow 25 = .ok (.aload_n 0, 1) := by decide +kernel
theorem d_B_grow_26 : decode b_B_grow 26 = .ok (.getfield 21, 3) := by decide +kernel
theorem d_B_grow_29 : decode b_B_grow 29 = .ok (.getfield 63, 3) := by decide +kernel
theorem d_B_grow_32 : decode b_B_grow 32 = .ok (.if_icmp .ge 20, 3) := by decide +kernel
theorem d_B_grow_35 : decode b_B_grow 35 = .ok (.aload_n 0, 1) := by decide +kernel
theorem d_B_grow_36 : decode b_B_grow 36 = .ok (.aload_n 0, 1) := by decide +kernel
theorem d_B_grow_37 : decode b_B_grow 37 = .ok (.getfield 40, 3) := by decide +kernel
theorem d_B_grow_40 : decode b_B_grow 40 = .ok (.iload_n 2, 1) := by decide +kernel
theorem d_B_grow_41 : decode b_B_grow 41 = .ok (.iaload, 1) := by decide +kernel
theorem d_B_grow_42 : decode b_B_grow 42 = .ok (.iload_n 3, 1) := by decide +kernel
theorem d_B_grow_43 : decode b_B_grow 43 = .ok (.invokevirtual 68, 3) := by decide +kernel
theorem d_B_grow_46 : decode b_B_grow 46 = .ok (.iinc 3 1, 3) := by decide +kernel
theorem d_B_grow_49 : decode b_B_grow 49 = .ok (.goto (-25), 3) := by decide +kernel
theorem d_B_grow_52 : decode b_B_grow 52 = .ok (.iinc 2 1, 3) := by decide +kernel
theorem d_B_grow_55 : decode b_B_grow 55 = .ok (.goto (-45), 3) := by decide +kernel
theorem d_B_grow_58 : decode b_B_grow 58 = .ok (.aload_n 0, 1) := by decide +kernel
theorem d_B_grow_59 : decode b_B_grow 59 = .ok (.aload_n 0, 1) := by decide +kernel
theorem d_B_grow_60 : decode b_B_grow 60 = .ok (.getfield 43, 3) := by decide +kernel
theorem d_B_grow_63 : decode b_B_grow 63 = .ok (.iload_n 1, 1) := by decide +kernel
theorem d_B_grow_64 : decode b_B_grow 64 = .ok (.if_icmp .ne 7, 3) := by decide +kernel
theorem d_B_grow_67 : decode b_B_grow 67 = .ok (.iconst 1, 1) := by decide +kernel
theorem d_B_grow_68 : decode b_B_grow 68 = .ok (.goto 4, 3) := by decide +kernel
theorem d_B_grow_71 : decode b_B_grow 71 = .ok (.iconst 0, 1) := by decide +kernel
theorem d_B_grow_72 : decode b_B_grow 72 = .ok (.putfield 55, 3) := by decide +kernel
theorem d_B_grow_75 : decode b_B_grow 75 = .ok (.aload_n 0, 1) := by decide +kernel
theorem d_B_grow_76 : decode b_B_grow 76 = .ok (.getfield 55, 3) := by decide +kernel
theorem d_B_grow_79 : decode b_B_grow 79 = .ok (.ifCond .ne 18, 3) := by decide +kernel
theorem d_B_grow_82 : decode b_B_grow 82 = .ok (.aload_n 0, 1) := by decide +kernel
theorem d_B_grow_83 : decode b_B_grow 83 = .ok (.iload_n 1, 1) := by decide +kernel
theorem d_B_grow_84 : decode b_B_grow 84 = .ok (.putfield 49, 3) := by decide +kernel
theorem d_B_grow_87 : decode b_B_grow 87 = .ok (.aload_n 0, 1) := by decide +kernel
theorem d_B_grow_88 : decode b_B_grow 88 = .ok (.dup, 1) := by decide +kernel
theorem d_B_grow_89 : decode b_B_grow 89 = .ok (.getfield 52, 3) := by decide +kernel
theorem d_B_grow_92 : decode b_B_grow 92 = .ok (.iconst 1, 1) := by decide +kernel
theorem d_B_grow_93 : decode b_B_grow 93 = .ok (.iadd, 1) := by decide +kernel
theorem d_B_grow_94 : decode b_B_grow 94 = .ok (.putfield 52, 3) := by decide +kernel
theorem d_B_grow_97 : decode b_B_grow 97 = .ok (.aload_n 0, 1) := by decide +kernel
theorem d_B_grow_98 : decode b_B_grow 98 = .ok (.getfield 55, 3) := by decide +kernel
theorem d_B_grow_101 : decode b_B_grow 101 = .ok (.ifCond .ne 7, 3) := by decide +kernel
theorem d_B_grow_104 : decode b_B_grow 104 = .ok (.iconst 1, 1) := by decide +kernel
theorem d_B_grow_105 : decode b_B_grow 105 = .ok (.goto 4, 3) := by decide +kernel
theorem d_B_grow_108 : decode b_B_grow 108 = .ok (.iconst 0, 1) := by decide +kernel
theorem d_B_grow_109 : decode b_B_grow 109 = .ok (.ireturn, 1) := by decide +kernel
theorem kw_8 : (Cond.selects "TwoEndSearch$Ball" ⟨"TwoEndSearch$Ball", "reachFrom", "(II)V"⟩ ⟨"TwoEndSearch$Ball", "reachFrom", "(II)V"⟩ : Cond) ∈ bigW := bigW_of 8 (by decide +kernel) (by decide +kernel)
theorem kw_125 : (Cond.fieldLink "TwoEndSearch$Ball" 21 "TwoEndSearch$Ball" "moves" "LTwoEndSearch$Moves;" : Cond) ∈ bigW := bigW_of 125 (by decide +kernel) (by decide +kernel)
theorem kw_126 : (Cond.fieldLink "TwoEndSearch$Ball" 9 "TwoEndSearch$Ball" "graph" "LTwoEndSearch$Graph;" : Cond) ∈ bigW := bigW_of 126 (by decide +kernel) (by decide +kernel)
theorem kw_127 : (Cond.fieldLink "TwoEndSearch$Ball" 22 "TwoEndSearch$Ball" "firstWay" "I" : Cond) ∈ bigW := bigW_of 127 (by decide +kernel) (by decide +kernel)
theorem kw_355 : (Cond.methodLink "TwoEndSearch$Ball" 68 ⟨"TwoEndSearch$Ball", "reachFrom", "(II)V"⟩ : Cond) ∈ bigW := bigW_of 355 (by decide +kernel) (by decide +kernel)
theorem kw_357 : (Cond.instanceMethod ⟨"TwoEndSearch$Ball", "reachFrom", "(II)V"⟩ : Cond) ∈ bigW := bigW_of 357 (by decide +kernel) (by decide +kernel)
theorem kw_358 : (Cond.code ⟨"TwoEndSearch$Ball", "reachFrom", "(II)V"⟩ prog_2_method_10_code 6 none : Cond) ∈ bigW := bigW_of 358 (by decide +kernel) (by decide +kernel)
theorem kw_359 : (Cond.methodLink "TwoEndSearch$Ball" 83 ⟨"TwoEndSearch$Moves", "mostTimes", "(II)I"⟩ : Cond) ∈ bigW := bigW_of 359 (by decide +kernel) (by decide +kernel)
theorem kw_360 : (Cond.instanceMethod ⟨"TwoEndSearch$Moves", "mostTimes", "(II)I"⟩ : Cond) ∈ bigW := bigW_of 360 (by decide +kernel) (by decide +kernel)
theorem kw_361 : (Cond.selects "TwoEndSearch$Moves" ⟨"TwoEndSearch$Moves", "mostTimes", "(II)I"⟩ ⟨"TwoEndSearch$Moves", "mostTimes", "(II)I"⟩ : Cond) ∈ bigW := bigW_of 361 (by decide +kernel) (by decide +kernel)
theorem kw_362 : (Cond.code ⟨"TwoEndSearch$Moves", "mostTimes", "(II)I"⟩ prog_4_method_6_code 3 (some .int) : Cond) ∈ bigW := bigW_of 362 (by decide +kernel) (by decide +kernel)
theorem kw_363 : (Cond.methodLink "TwoEndSearch$Ball" 87 ⟨"TwoEndSearch$Graph", "follow", "(II)I"⟩ : Cond) ∈ bigW := bigW_of 363 (by decide +kernel) (by decide +kernel)
theorem kw_364 : (Cond.instanceMethod ⟨"TwoEndSearch$Graph", "follow", "(II)I"⟩ : Cond) ∈ bigW := bigW_of 364 (by decide +kernel) (by decide +kernel)
theorem kw_365 : (Cond.selects "TwoEndSearch$Graph" ⟨"TwoEndSearch$Graph", "follow", "(II)I"⟩ ⟨"TwoEndSearch$Graph", "follow", "(II)I"⟩ : Cond) ∈ bigW := bigW_of 365 (by decide +kernel) (by decide +kernel)
theorem kw_366 : (Cond.code ⟨"TwoEndSearch$Graph", "follow", "(II)I"⟩ prog_3_method_4_code 6 (some .int) : Cond) ∈ bigW := bigW_of 366 (by decide +kernel) (by decide +kernel)
def po_B_reachFrom (q : wz_Q) (ab ag am : Nat → Nat) (n b k fw : Nat) (rl rt : Nat → Nat) (fo : Nat → Int32) (M : Nat → Nat → Int32) (sg tu : Nat → Nat → Nat) (od : Nat → Nat) (a0 : Nat) (G : List Nat) (st sl : Nat → Int32) (L : Nat → Nat → Int32) (S : pz_S) (fa : Nat → Int32) (wy : Nat → Int64) (re : Nat → Int32) (ly dp : Nat) (me cm : Int32) (i x o : Nat) : wz_G → Prop := fun w => ∃ (G' : List Nat) (st' sl' : Nat → Int32) (L' : Nat → Nat → Int32) (S' : pz_S) (fa' : Nat → Int32) (wy' : Nat → Int64) (re' : Nat → Int32), w = [bl_W q ab (am 0) (ag 0) fw (pz_fact n) fa' wy' re' S'.1.length ly dp me cm, gq_W q ag (am 0) (pz_fact n) (2 ^ b) (32 - b) rl st' sl' G'.length, wz_rows 12 rl (fun i9 => .inl (q.1, pz_fact n, .inl (L' i9))), mv_W q am n k rt fo, wz_rows 12 rt (fun i9 => .inl (q.1, 8, .inl (M i9)))] ∧ S' = (pz_tm (bl_g n fw sg tu o) x (bl_mt me od o)).foldl (pz_vis (dp + 1) (S.2.2 x)) S ∧ (∃ Nw, G' = G ++ Nw) ∧ gq_ok n a0 b k sg tu G' st' sl' L' ∧ bl_ok (pz_fact n) G' S' fa' wy' re'
set_option maxHeartbeats 4000000 in
set_option maxRecDepth 100000 in
/-- all that a move, as often as a step may do it, brings from a state -/
theorem c_B_reachFrom (l : Launch) (D : va_G) (q : wz_Q) (ab ag am : Nat → Nat) (n b k fw : Nat) (rl rt : Nat → Nat) (fo : Nat → Int32) (M : Nat → Nat → Int32) (sg tu : Nat → Nat → Nat) (od : Nat → Nat) (a0 : Nat) (G : List Nat) (st sl : Nat → Int32) (L : Nat → Nat → Int32) (S : pz_S) (fa : Nat → Int32) (wy : Nat → Int64) (re : Nat → Int32) (ly dp : Nat) (me cm : Int32) (i x o : Nat) (hn : n ≤ 8) (hb0 : 0 < b) (hb30 : b ≤ 30) (hM : pz_fact n < 2 ^ b) (hk : k ≤ 6) (hfw : fw = 0 ∨ fw = 6) (hmv : mv_ok n k fo M sg tu od) (hok : gq_ok n a0 b k sg tu G st sl L) (hbl : bl_ok (pz_fact n) G S fa wy re) (ho : o < k) (hi : G[i]? = some x) (hxd : S.2.1 x = some dp) (hdp : dp < 2 ^ 20) (hlt : ∀ y e, S.2.1 y = some e → e < 2 ^ 21) : wz_Mv l y_B_reachFrom ws_B_reachFrom ({ frames := 3, cells := 0, slots := 0, locals := 72 } : Room) D q ([.ref (ab 0), .int (nI i), .int (nI o)] : List Value) [bl_W q ab (am 0) (ag 0) fw (pz_fact n) fa wy re S.1.length ly dp me cm, gq_W q ag (am 0) (pz_fact n) (2 ^ b) (32 - b) rl st sl G.length, wz_rows 12 rl (fun i9 => .inl (q.1, pz_fact n, .inl (L i9))), mv_W q am n k rt fo, wz_rows 12 rt (fun i9 => .inl (q.1, 8, .inl (M i9)))] (po_B_reachFrom q ab ag am n b k fw rl rt fo M sg tu od a0 G st sl L S fa wy re ly dp me cm i x o) 0 0 := by
  intro sz9
  refine wz_enter (cc := b_B_reachFrom) (maxL := 6) (ret := none) (Qc := fun A => (va_Qv (po_B_reachFrom q ab ag am n b k fw rl rt fo M sg tu od a0 G st sl L S fa wy re ly dp me cm i x o) (wz_At D q A) A)) (by decide) (Nat.le_of_ble_eq_true rfl) ?_
  intro p e s m below meth c A ls C hP hD hS hl
  obtain ⟨hx, hb, hr, hml, hlocks, hown, hts, hN, hK, hA, hnm⟩ := C
  have hown : s.vm.findClass "TwoEndSearch$Ball" = some m.cls := hown
  have hl : lv_has ls 6 [(0, .ref (ab 0)), (1, .int (nI i)), (2, .int (nI o))] := hl
  have hfl := pz_fact_le hn
  have hGl := gq_len hok
  have hil := (List.getElem?_eq_some_iff.mp hi).1
  have hmt := bl_mt_le (me := me) hmv ho
  have huw := bl_way hk hfw ho
  refine lv_aload_n hx hb d_B_reachFrom_0 rfl (lv_at hl 0 rfl) ?_
  refine wz_get (v := .ref (am 0)) (T := T_B) (N := 11) hx hb hts i_B hown hK hP 0 0 rfl rfl rfl 0 (by decide) (hts _ kw_125) rfl rfl d_B_reachFrom_1 ?_
  refine lv_aload_n hx hb d_B_reachFrom_4 rfl (lv_at hl 0 rfl) ?_
  refine wz_get (v := .int me) (T := T_B) (N := 11) hx hb hts i_B hown hK hP 0 0 rfl rfl rfl 9 (by decide) (hts _ kw_141) rfl rfl d_B_reachFrom_5 ?_
  refine lv_iload_n hx hb d_B_reachFrom_8 rfl (lv_at hl 2 rfl) ?_
  have hQ := wz_split (n := 5) (gc := [mv_W q am n k rt fo]) (gr := [bl_W q ab (am 0) (ag 0) fw (pz_fact n) fa wy re S.1.length ly dp me cm, gq_W q ag (am 0) (pz_fact n) (2 ^ b) (32 - b) rl st sl G.length, wz_rows 12 rl (fun i9 => .inl (q.1, pz_fact n, .inl (L i9))), wz_rows 12 rt (fun i9 => .inl (q.1, 8, .inl (M i9)))]) [3] [0, 1, 2, 4] rfl (by decide) rfl rfl hP hD
  refine wz_calli (va_runV (As := [.int me, .int (nI o)]) (rest := []) ⟨hx, hb, hml, hown, hts⟩ (c_M_mostTimes l D q am n k rt fo me o (by omega) _) (cwV 2 hts (wz_goodV kw_359 kw_360 kw_361 kw_32 kw_362) rfl rfl rfl (by decide +kernel) ⟨Nat.le_of_ble_eq_true rfl, Nat.le_of_ble_eq_true rfl⟩) (wz_preV (gi := 0) (k := 0) hN hK hQ wz_L_ok rfl rfl rfl) rfl rfl hl.1 rfl (lv_room (Nat.le_of_ble_eq_true rfl)) d_B_reachFrom_9 ⟨Nat.le_of_ble_eq_true rfl, Nat.le_of_ble_eq_true rfl⟩) hQ hS hA (fun v_9 gx H locs hp hP hD hS => ?_)
  obtain ⟨rfl, rfl⟩ := hp
  obtain ⟨hP, hD⟩ := wz_ord (n := 5) (gs' := [bl_W q ab (am 0) (ag 0) fw (pz_fact n) fa wy re S.1.length ly dp me cm, gq_W q ag (am 0) (pz_fact n) (2 ^ b) (32 - b) rl st sl G.length, wz_rows 12 rl (fun i9 => .inl (q.1, pz_fact n, .inl (L i9))), mv_W q am n k rt fo, wz_rows 12 rt (fun i9 => .inl (q.1, 8, .inl (M i9)))]) [1, 2, 3, 0, 4] rfl (by decide) rfl hP hD
  refine wz_topi (y := nI (bl_mt me od o)) (bl_mt_eq hmv ho) ?_
  refine lv_istore_n (lv' := [(3, .int (nI (bl_mt me od o))), (0, .ref (ab 0)), (1, .int (nI i)), (2, .int (nI o))]) hx hb d_B_reachFrom_12 rfl hl (by decide) rfl (fun ls hl => ?_)
  refine lv_iload_n hx hb d_B_reachFrom_13 rfl (lv_at hl 2 rfl) ?_
  refine lv_istore (lv' := [(4, .int (nI i)), (3, .int (nI (bl_mt me od o))), (0, .ref (ab 0)), (1, .int (nI i)), (2, .int (nI o))]) hx hb d_B_reachFrom_14 hl (by decide) rfl (fun ls hl => ?_)
  refine lv_iconst (v := nI 1) hx hb d_B_reachFrom_16 (by decide) ?_
  refine lv_istore (lv' := [(5, .int (nI 1)), (4, .int (nI i)), (3, .int (nI (bl_mt me od o))), (0, .ref (ab 0)), (1, .int (nI i)), (2, .int (nI o))]) hx hb d_B_reachFrom_17 hl (by decide) rfl (fun ls hl => ?_)
  have loop : ∀ (d : Nat) (t j : Nat) (G1 : List Nat) (st1 sl1 : Nat → Int32) (L1 : Nat → Nat → Int32) (S1 : pz_S) (fa1 : Nat → Int32) (wy1 : Nat → Int64) (re1 : Nat → Int32), t ≤ bl_mt me od o → bl_mt me od o + 1 ≤ t + d → G1[j]? = some (pz_it (bl_g n fw sg tu o) t x) → (∃ Nw, G1 = G ++ Nw) → gq_ok n a0 b k sg tu G1 st1 sl1 L1 → bl_ok (pz_fact n) G1 S1 fa1 wy1 re1 → S1 = (pz_tm (bl_g n fw sg tu o) x t).foldl (pz_vis (dp + 1) (S.2.2 x)) S → ∀ (H : Heap) (locs : List Loc) (ls : Array Slot), va_P D vwCl ([bl_W q ab (am 0) (ag 0) fw (pz_fact n) fa1 wy1 re1 S1.1.length ly dp me cm, gq_W q ag (am 0) (pz_fact n) (2 ^ b) (32 - b) rl st1 sl1 G1.length, wz_rows 12 rl (fun i9 => .inl (q.1, pz_fact n, .inl (L1 i9))), mv_W q am n k rt fo, wz_rows 12 rt (fun i9 => .inl (q.1, 8, .inl (M i9)))] : wz_G).flatten H → va_D A ([bl_W q ab (am 0) (ag 0) fw (pz_fact n) fa1 wy1 re1 S1.1.length ly dp me cm, gq_W q ag (am 0) (pz_fact n) (2 ^ b) (32 - b) rl st1 sl1 G1.length, wz_rows 12 rl (fun i9 => .inl (q.1, pz_fact n, .inl (L1 i9))), mv_W q am n k rt fo, wz_rows 12 rt (fun i9 => .inl (q.1, 8, .inl (M i9)))] : wz_G).flatten → va_S A s.heap H locs → lv_has ls 6 [(0, .ref (ab 0)), (1, .int (nI i)), (2, .int (nI o)), (3, .int (nI (bl_mt me od o))), (4, .int (nI j)), (5, .int (nI (t + 1)))] → W p l e ({ frames := 3, cells := 0, slots := 0, locals := 72 } : Room) s m ([.ref (ab 0), .int (nI i), .int (nI o)] : List Value).toArray below meth c H locs 0 0 (MQ below (va_Qv (po_B_reachFrom q ab ag am n b k fw rl rt fo M sg tu od a0 G st sl L S fa wy re ly dp me cm i x o) (wz_At D q A) A) ([.ref (ab 0), .int (nI i), .int (nI o)] : List Value).toArray s 0 0 A) (F0 m 19 ls []) := by
    intro d
    induction d with
    | zero =>
      intro t j G1 st1 sl1 L1 S1 fa1 wy1 re1 ht hd hj hp1 hok1 hbl1 hS1
      omega
    | succ d ih =>
      intro t j G1 st1 sl1 L1 S1 fa1 wy1 re1 ht hd hj hp1 hok1 hbl1 hS1 H locs ls hP hD hS hl
      refine lv_iload hx hb d_B_reachFrom_19 (lv_at hl 5 rfl) ?_
      refine lv_iload_n hx hb d_B_reachFrom_21 rfl (lv_at hl 3 rfl) ?_
      refine wz_gt (tgt := 103) hx hb d_B_reachFrom_22 (by decide) (by omega) (by omega) (fun hc => ?_) (fun hc => ?_)
      · skip
        have hte : t = bl_mt me od o := by omega
        subst hte
        exact wz_vret hx hb hr hlocks hK hP hD hS d_B_reachFrom_103 ⟨G1, st1, sl1, L1, S1, fa1, wy1, re1, rfl, hS1, hp1, hok1, hbl1⟩
      · skip
        have hk1 := pz_fold_keep (l := pz_tm (bl_g n fw sg tu o) x t) (w := S.2.2 x) hxd (show dp ≠ dp + 1 by omega)
        rw [← hS1] at hk1
        have hlt1 : ∀ y e, S1.2.1 y = some e → e < 2 ^ 21 := by rw [hS1]; exact pz_fold_lt hlt (by omega)
        refine lv_aload_n hx hb d_B_reachFrom_25 rfl (lv_at hl 0 rfl) ?_
        refine wz_get (v := .ref (ag 0)) (T := T_B) (N := 11) hx hb hts i_B hown hK hP 0 0 rfl rfl rfl 1 (by decide) (hts _ kw_126) rfl rfl d_B_reachFrom_26 ?_
        refine lv_aload_n hx hb d_B_reachFrom_29 rfl (lv_at hl 0 rfl) ?_
        refine wz_get (v := .int (nI fw)) (T := T_B) (N := 11) hx hb hts i_B hown hK hP 0 0 rfl rfl rfl 2 (by decide) (hts _ kw_127) rfl rfl d_B_reachFrom_30 ?_
        refine lv_iload_n hx hb d_B_reachFrom_33 rfl (lv_at hl 2 rfl) ?_
        refine lv_iadd hx hb d_B_reachFrom_34 ?_
        refine wz_topi (y := nI (fw + o)) (nI_add fw o) ?_
        refine lv_iload hx hb d_B_reachFrom_35 (lv_at hl 4 rfl) ?_
        have hQ := wz_split (n := 5) (gc := [gq_W q ag (am 0) (pz_fact n) (2 ^ b) (32 - b) rl st1 sl1 G1.length, wz_rows 12 rl (fun i9 => .inl (q.1, pz_fact n, .inl (L1 i9))), mv_W q am n k rt fo, wz_rows 12 rt (fun i9 => .inl (q.1, 8, .inl (M i9)))]) (gr := [bl_W q ab (am 0) (ag 0) fw (pz_fact n) fa1 wy1 re1 S1.1.length ly dp me cm]) [1, 2, 3, 4] [0] rfl (by decide) rfl rfl hP hD
        refine wz_calli (va_runV (As := [.int (nI (fw + o)), .int (nI j)]) (rest := []) ⟨hx, hb, hml, hown, hts⟩ (c_G_follow l D q ag am n b k rl rt fo st1 sl1 L1 sg tu G1 M od a0 (fw + o) j (pz_it (bl_g n fw sg tu o) t x) hn hb0 hb30 hM hk hok1 hmv huw hj _) (cwV 2 hts (wz_goodV kw_363 kw_364 kw_365 kw_34 kw_366) rfl rfl rfl (by decide +kernel) ⟨Nat.le_of_ble_eq_true rfl, Nat.le_of_ble_eq_true rfl⟩) (wz_preV (gi := 0) (k := 0) hN hK hQ wz_L_ok rfl rfl rfl) rfl rfl hl.1 rfl (lv_room (Nat.le_of_ble_eq_true rfl)) d_B_reachFrom_37 ⟨Nat.le_of_ble_eq_true rfl, Nat.le_of_ble_eq_true rfl⟩) hQ hS hA (fun v_37 gx H locs hp hP hD hS => ?_)
        obtain ⟨G2, st2, sl2, L2, c9, j2, rfl, rfl, rfl, hj2, hNw2, hok2⟩ := hp
        obtain ⟨hP, hD⟩ := wz_ord (n := 5) (gs' := [bl_W q ab (am 0) (ag 0) fw (pz_fact n) fa1 wy1 re1 S1.1.length ly dp me cm, gq_W q ag (am 0) (pz_fact n) (2 ^ b) (32 - b) rl st2 sl2 G2.length, wz_rows 12 rl (fun i9 => .inl (q.1, pz_fact n, .inl (L2 i9))), mv_W q am n k rt fo, wz_rows 12 rt (fun i9 => .inl (q.1, 8, .inl (M i9)))]) [4, 0, 1, 2, 3] rfl (by decide) rfl hP hD
        obtain ⟨Na, hNa⟩ := hp1
        obtain ⟨Nb, hNb⟩ := hNw2
        have hj2 : G2[j2]? = some (pz_it (bl_g n fw sg tu o) (t + 1) x) := hj2
        have hbl2 := bl_more hbl1 ⟨Nb, hNb⟩ hok2.1 (gq_len hok2)
        have hGl2 := gq_len hok2
        have hj2l := (List.getElem?_eq_some_iff.mp hj2).1
        have hi2 : G2[i]? = some x := by rw [hNb, hNa, List.append_assoc, List.getElem?_append_left hil]; exact hi
        have hi2l := (List.getElem?_eq_some_iff.mp hi2).1
        generalize hcd : pz_it (bl_g n fw sg tu o) (t + 1) x = cd at hj2
        refine lv_istore (lv' := [(4, .int (nI j2)), (0, .ref (ab 0)), (1, .int (nI i)), (2, .int (nI o)), (3, .int (nI (bl_mt me od o))), (5, .int (nI (t + 1)))]) hx hb d_B_reachFrom_40 hl (by decide) rfl (fun ls hl => ?_)
        refine lv_aload_n hx hb d_B_reachFrom_42 rfl (lv_at hl 1 rfl) ?_
        refine wz_get (v := .ref (ab 1)) (T := T_B) (N := 11) hx hb hts i_B hown hK hP 0 0 rfl rfl rfl 3 (by decide) (hts _ kw_128) rfl rfl d_B_reachFrom_43 ?_
        refine lv_iload hx hb d_B_reachFrom_46 (lv_at hl 0 rfl) ?_
        refine wz_iald hx hb hK hP 0 1 (j := j2) rfl rfl (by omega) (by omega) d_B_reachFrom_48 ?_
        refine wz_topi (y := (bl_fo (S1.2.1 cd))) (hbl2.2.1 j2 cd hj2).1 ?_
        refine lv_iconst (v := (-1)) hx hb d_B_reachFrom_49 (by decide) ?_
        refine lv_icmp_ne (tgt := 65) hx hb d_B_reachFrom_50 (by decide) (fun hc2 => ?_) (fun hc2 => ?_)
        · skip
          have hS2 : S1 = pz_take (dp + 1) S1 cd := (pz_take_no (fun q => hc2 (by rw [q]; rfl))).symm
          have hbl3 := hbl2
          have hlt2 : ∀ y e, S1.2.1 y = some e → e < 2 ^ 21 := by rw [hS2]; exact pz_take_lt hlt1 (by omega)
          have hk2 := pz_take_keep (d := dp + 1) (c := cd) hk1.1
          rw [← hS2] at hk2
          have hwi : wy1 i = S.2.2 x := by rw [(hbl3.2.1 i x hi2).2 (pz_sn hk2.1), hk2.2, hk1.2]
          refine lv_aload_n hx hb d_B_reachFrom_65 rfl (lv_at hl 1 rfl) ?_
          refine wz_get (v := .ref (ab 1)) (T := T_B) (N := 11) hx hb hts i_B hown hK hP 0 0 rfl rfl rfl 3 (by decide) (hts _ kw_128) rfl rfl d_B_reachFrom_66 ?_
          refine lv_iload hx hb d_B_reachFrom_69 (lv_at hl 0 rfl) ?_
          refine wz_iald hx hb hK hP 0 1 (j := j2) rfl rfl (by omega) (by omega) d_B_reachFrom_71 ?_
          refine wz_topi (y := (bl_fo (S1.2.1 cd))) (hbl3.2.1 j2 cd hj2).1 ?_
          refine lv_aload_n hx hb d_B_reachFrom_72 rfl (lv_at hl 1 rfl) ?_
          refine wz_get (v := .int (nI dp)) (T := T_B) (N := 11) hx hb hts i_B hown hK hP 0 0 rfl rfl rfl 8 (by decide) (hts _ kw_138) rfl rfl d_B_reachFrom_73 ?_
          refine lv_iconst (v := nI 1) hx hb d_B_reachFrom_76 (by decide) ?_
          refine lv_iadd hx hb d_B_reachFrom_77 ?_
          refine wz_topi (y := nI (dp + 1)) (nI_add dp 1) ?_
          refine lv_icmp_ne (tgt := 97) hx hb d_B_reachFrom_78 (by decide) (fun hc3 => ?_) (fun hc3 => ?_)
          · skip
            refine lv_iinc (v := nI ((t + 1) + 1)) (lv' := [(5, .int (nI ((t + 1) + 1))), (4, .int (nI j2)), (0, .ref (ab 0)), (1, .int (nI i)), (2, .int (nI o)), (3, .int (nI (bl_mt me od o)))]) hx hb d_B_reachFrom_97 hl (k := 5) rfl (nI_1 (t + 1)) (by decide) rfl (fun ls hl => ?_)
            refine lv_goto (tgt := 19) hx hb d_B_reachFrom_100 (by decide) ?_
            exact ih (t + 1) j2 G2 st2 sl2 L2 S1 (fa1) (wy1) (re1) (by omega) (by omega) (by rw [hcd]; exact hj2) ⟨Na ++ Nb, by rw [hNb, hNa, List.append_assoc]⟩ hok2 hbl3 (by rw [pz_tm_fold, ← hS1, hcd, ← hS2]; exact (pz_bump_no (fun q => hc3 ((bl_fo_s (fun e he => Nat.lt_trans (hlt2 _ e he) (by decide)) (by omega)).mpr q))).symm) _ _ _ hP hD hS (lv_sub hl [2, 3, 4, 5, 1, 0] rfl)
          · skip
            refine lv_aload_n hx hb d_B_reachFrom_81 rfl (lv_at hl 1 rfl) ?_
            refine wz_get (v := .ref (ab 2)) (T := T_B) (N := 11) hx hb hts i_B hown hK hP 0 0 rfl rfl rfl 4 (by decide) (hts _ kw_130) rfl rfl d_B_reachFrom_82 ?_
            refine lv_iload hx hb d_B_reachFrom_85 (lv_at hl 0 rfl) ?_
            refine lv_dup2_11 hx hb d_B_reachFrom_87 rfl rfl ?_
            refine wz_lald hx hb hK hP 0 2 (j := j2) rfl rfl (by omega) (by omega) d_B_reachFrom_88 ?_
            refine lv_aload_n hx hb d_B_reachFrom_89 rfl (lv_at hl 1 rfl) ?_
            refine wz_get (v := .ref (ab 2)) (T := T_B) (N := 11) hx hb hts i_B hown hK hP 0 0 rfl rfl rfl 4 (by decide) (hts _ kw_130) rfl rfl d_B_reachFrom_90 ?_
            refine lv_iload_n hx hb d_B_reachFrom_93 rfl (lv_at hl 2 rfl) ?_
            refine wz_lald hx hb hK hP 0 2 (j := i) rfl rfl (by omega) (by omega) d_B_reachFrom_94 ?_
            refine wz_topl (y := (S.2.2 x)) hwi ?_
            refine lv_ladd hx hb d_B_reachFrom_95 ?_
            refine wz_last (gs' := [bl_W q ab (am 0) (ag 0) fw (pz_fact n) fa1 (vp_updL wy1 j2 ((wy1 j2) + (S.2.2 x))) re1 S1.1.length ly dp me cm, gq_W q ag (am 0) (pz_fact n) (2 ^ b) (32 - b) rl st2 sl2 G2.length, wz_rows 12 rl (fun i9 => .inl (q.1, pz_fact n, .inl (L2 i9))), mv_W q am n k rt fo, wz_rows 12 rt (fun i9 => .inl (q.1, 8, .inl (M i9)))]) hx hb hK hP hD hS 0 2 (j := j2) rfl rfl (by omega) (by omega) d_B_reachFrom_96 rfl (fun H locs hP hD hS => ?_)
            refine lv_iinc (v := nI ((t + 1) + 1)) (lv' := [(5, .int (nI ((t + 1) + 1))), (4, .int (nI j2)), (0, .ref (ab 0)), (1, .int (nI i)), (2, .int (nI o)), (3, .int (nI (bl_mt me od o)))]) hx hb d_B_reachFrom_97 hl (k := 5) rfl (nI_1 (t + 1)) (by decide) rfl (fun ls hl => ?_)
            refine lv_goto (tgt := 19) hx hb d_B_reachFrom_100 (by decide) ?_
            have hb4 := bl_bump (w := S.2.2 x) hbl3 hok2.1 hj2 ((bl_fo_s (fun e he => Nat.lt_trans (hlt2 _ e he) (by decide)) (by omega)).mp hc3)
            have e9 : S1.1.length = (pz_bump (dp + 1) (S.2.2 x) S1 cd).1.length := by rw [pz_bump_len]
            rw [e9] at hP hD
            exact ih (t + 1) j2 G2 st2 sl2 L2 (pz_bump (dp + 1) (S.2.2 x) S1 cd) (fa1) (vp_updL (wy1) j2 ((wy1) j2 + S.2.2 x)) (re1) (by omega) (by omega) (by rw [hcd]; exact hj2) ⟨Na ++ Nb, by rw [hNb, hNa, List.append_assoc]⟩ hok2 hb4 (by rw [pz_tm_fold, ← hS1, hcd, ← hS2]) _ _ _ hP hD hS (lv_sub hl [2, 3, 4, 5, 1, 0] rfl)
        · skip
          have hnone : S1.2.1 cd = none := (bl_fo_n (fun e he => Nat.lt_trans (hlt1 _ e he) (by decide))).mp hc2
          have hnew := bl_new hbl2 (List.mem_of_getElem? hj2) hnone
          refine lv_aload_n hx hb d_B_reachFrom_53 rfl (lv_at hl 1 rfl) ?_
          refine lv_iload hx hb d_B_reachFrom_54 (lv_at hl 0 rfl) ?_
          refine lv_aload_n hx hb d_B_reachFrom_56 rfl (lv_at hl 1 rfl) ?_
          refine wz_get (v := .int (nI dp)) (T := T_B) (N := 11) hx hb hts i_B hown hK hP 0 0 rfl rfl rfl 8 (by decide) (hts _ kw_138) rfl rfl d_B_reachFrom_57 ?_
          refine lv_iconst (v := nI 1) hx hb d_B_reachFrom_60 (by decide) ?_
          refine lv_iadd hx hb d_B_reachFrom_61 ?_
          refine wz_topi (y := nI (dp + 1)) (nI_add dp 1) ?_
          have hQ := wz_split (n := 5) (gc := [bl_W q ab (am 0) (ag 0) fw (pz_fact n) fa1 wy1 re1 S1.1.length ly dp me cm]) (gr := [gq_W q ag (am 0) (pz_fact n) (2 ^ b) (32 - b) rl st2 sl2 G2.length, wz_rows 12 rl (fun i9 => .inl (q.1, pz_fact n, .inl (L2 i9))), mv_W q am n k rt fo, wz_rows 12 rt (fun i9 => .inl (q.1, 8, .inl (M i9)))]) [0] [1, 2, 3, 4] rfl (by decide) rfl rfl hP hD
          refine wz_callv (va_runV (As := [.int (nI j2), .int (nI (dp + 1))]) (rest := []) ⟨hx, hb, hml, hown, hts⟩ (c_B_take l D q ab (am 0) (ag 0) fw (pz_fact n) fa1 wy1 re1 S1.1.length ly dp me cm j2 (dp + 1) (by omega) (by omega) (by omega) _) (cwV 2 hts (wz_goodV kw_323 kw_324 kw_325 kw_35 kw_326) rfl rfl rfl (by decide +kernel) ⟨Nat.le_of_ble_eq_true rfl, Nat.le_of_ble_eq_true rfl⟩) (wz_preV (gi := 0) (k := 0) hN hK hQ wz_L_ok rfl rfl rfl) rfl rfl hl.1 rfl (lv_room (Nat.le_of_ble_eq_true rfl)) d_B_reachFrom_62 ⟨Nat.le_of_ble_eq_true rfl, Nat.le_of_ble_eq_true rfl⟩) hQ hS hA (fun gx H locs hp hP hD hS => ?_)
          have hp : gx = _ := hp
          subst hp
          obtain ⟨hP, hD⟩ := wz_ord (n := 5) (gs' := [bl_W q ab (am 0) (ag 0) fw (pz_fact n) (upd fa1 j2 (nI (dp + 1))) (vp_updL wy1 j2 0) (upd re1 S1.1.length (nI j2)) (S1.1.length + 1) ly dp me cm, gq_W q ag (am 0) (pz_fact n) (2 ^ b) (32 - b) rl st2 sl2 G2.length, wz_rows 12 rl (fun i9 => .inl (q.1, pz_fact n, .inl (L2 i9))), mv_W q am n k rt fo, wz_rows 12 rt (fun i9 => .inl (q.1, 8, .inl (M i9)))]) [0, 1, 2, 3, 4] rfl (by decide) rfl hP hD
          have hbl3 := bl_take (d := dp + 1) hbl2 hok2.1 hj2 hnone
          rw [← bl_take_len (d := dp + 1) hnone] at hP hD
          obtain ⟨S2, hS2⟩ : ∃ S2, S2 = pz_take (dp + 1) S1 cd := ⟨_, rfl⟩
          rw [← hS2] at hP hD hbl3
          have hlt2 : ∀ y e, S2.2.1 y = some e → e < 2 ^ 21 := by rw [hS2]; exact pz_take_lt hlt1 (by omega)
          have hk2 := pz_take_keep (d := dp + 1) (c := cd) hk1.1
          rw [← hS2] at hk2
          have hwi : (vp_updL wy1 j2 0) i = S.2.2 x := by rw [(hbl3.2.1 i x hi2).2 (pz_sn hk2.1), hk2.2, hk1.2]
          refine lv_aload_n hx hb d_B_reachFrom_65 rfl (lv_at hl 1 rfl) ?_
          refine wz_get (v := .ref (ab 1)) (T := T_B) (N := 11) hx hb hts i_B hown hK hP 0 0 rfl rfl rfl 3 (by decide) (hts _ kw_128) rfl rfl d_B_reachFrom_66 ?_
          refine lv_iload hx hb d_B_reachFrom_69 (lv_at hl 0 rfl) ?_
          refine wz_iald hx hb hK hP 0 1 (j := j2) rfl rfl (by omega) (by omega) d_B_reachFrom_71 ?_
          refine wz_topi (y := (bl_fo (S2.2.1 cd))) (hbl3.2.1 j2 cd hj2).1 ?_
          refine lv_aload_n hx hb d_B_reachFrom_72 rfl (lv_at hl 1 rfl) ?_
          refine wz_get (v := .int (nI dp)) (T := T_B) (N := 11) hx hb hts i_B hown hK hP 0 0 rfl rfl rfl 8 (by decide) (hts _ kw_138) rfl rfl d_B_reachFrom_73 ?_
          refine lv_iconst (v := nI 1) hx hb d_B_reachFrom_76 (by decide) ?_
          refine lv_iadd hx hb d_B_reachFrom_77 ?_
          refine wz_topi (y := nI (dp + 1)) (nI_add dp 1) ?_
          refine lv_icmp_ne (tgt := 97) hx hb d_B_reachFrom_78 (by decide) (fun hc3 => ?_) (fun hc3 => ?_)
          · skip
            refine lv_iinc (v := nI ((t + 1) + 1)) (lv' := [(5, .int (nI ((t + 1) + 1))), (4, .int (nI j2)), (0, .ref (ab 0)), (1, .int (nI i)), (2, .int (nI o)), (3, .int (nI (bl_mt me od o)))]) hx hb d_B_reachFrom_97 hl (k := 5) rfl (nI_1 (t + 1)) (by decide) rfl (fun ls hl => ?_)
            refine lv_goto (tgt := 19) hx hb d_B_reachFrom_100 (by decide) ?_
            exact ih (t + 1) j2 G2 st2 sl2 L2 S2 (upd fa1 j2 (nI (dp + 1))) ((vp_updL wy1 j2 0)) (upd re1 S1.1.length (nI j2)) (by omega) (by omega) (by rw [hcd]; exact hj2) ⟨Na ++ Nb, by rw [hNb, hNa, List.append_assoc]⟩ hok2 hbl3 (by rw [pz_tm_fold, ← hS1, hcd, ← hS2]; exact (pz_bump_no (fun q => hc3 ((bl_fo_s (fun e he => Nat.lt_trans (hlt2 _ e he) (by decide)) (by omega)).mpr q))).symm) _ _ _ hP hD hS (lv_sub hl [2, 3, 4, 5, 1, 0] rfl)
          · skip
            refine lv_aload_n hx hb d_B_reachFrom_81 rfl (lv_at hl 1 rfl) ?_
            refine wz_get (v := .ref (ab 2)) (T := T_B) (N := 11) hx hb hts i_B hown hK hP 0 0 rfl rfl rfl 4 (by decide) (hts _ kw_130) rfl rfl d_B_reachFrom_82 ?_
            refine lv_iload hx hb d_B_reachFrom_85 (lv_at hl 0 rfl) ?_
            refine lv_dup2_11 hx hb d_B_reachFrom_87 rfl rfl ?_
            refine wz_lald hx hb hK hP 0 2 (j := j2) rfl rfl (by omega) (by omega) d_B_reachFrom_88 ?_
            refine lv_aload_n hx hb d_B_reachFrom_89 rfl (lv_at hl 1 rfl) ?_
            refine wz_get (v := .ref (ab 2)) (T := T_B) (N := 11) hx hb hts i_B hown hK hP 0 0 rfl rfl rfl 4 (by decide) (hts _ kw_130) rfl rfl d_B_reachFrom_90 ?_
            refine lv_iload_n hx hb d_B_reachFrom_93 rfl (lv_at hl 2 rfl) ?_
            refine wz_lald hx hb hK hP 0 2 (j := i) rfl rfl (by omega) (by omega) d_B_reachFrom_94 ?_
            refine wz_topl (y := (S.2.2 x)) hwi ?_
            refine lv_ladd hx hb d_B_reachFrom_95 ?_
            refine wz_last (gs' := [bl_W q ab (am 0) (ag 0) fw (pz_fact n) (upd fa1 j2 (nI (dp + 1))) (vp_updL (vp_updL wy1 j2 0) j2 (((vp_updL wy1 j2 0) j2) + (S.2.2 x))) (upd re1 S1.1.length (nI j2)) S2.1.length ly dp me cm, gq_W q ag (am 0) (pz_fact n) (2 ^ b) (32 - b) rl st2 sl2 G2.length, wz_rows 12 rl (fun i9 => .inl (q.1, pz_fact n, .inl (L2 i9))), mv_W q am n k rt fo, wz_rows 12 rt (fun i9 => .inl (q.1, 8, .inl (M i9)))]) hx hb hK hP hD hS 0 2 (j := j2) rfl rfl (by omega) (by omega) d_B_reachFrom_96 rfl (fun H locs hP hD hS => ?_)
            refine lv_iinc (v := nI ((t + 1) + 1)) (lv' := [(5, .int (nI ((t + 1) + 1))), (4, .int (nI j2)), (0, .ref (ab 0)), (1, .int (nI i)), (2, .int (nI o)), (3, .int (nI (bl_mt me od o)))]) hx hb d_B_reachFrom_97 hl (k := 5) rfl (nI_1 (t + 1)) (by decide) rfl (fun ls hl => ?_)
            refine lv_goto (tgt := 19) hx hb d_B_reachFrom_100 (by decide) ?_
            have hb4 := bl_bump (w := S.2.2 x) hbl3 hok2.1 hj2 ((bl_fo_s (fun e he => Nat.lt_trans (hlt2 _ e he) (by decide)) (by omega)).mp hc3)
            have e9 : S2.1.length = (pz_bump (dp + 1) (S.2.2 x) S2 cd).1.length := by rw [pz_bump_len]
            rw [e9] at hP hD
            exact ih (t + 1) j2 G2 st2 sl2 L2 (pz_bump (dp + 1) (S.2.2 x) S2 cd) (upd fa1 j2 (nI (dp + 1))) (vp_updL ((vp_updL wy1 j2 0)) j2 (((vp_updL wy1 j2 0)) j2 + S.2.2 x)) (upd re1 S1.1.length (nI j2)) (by omega) (by omega) (by rw [hcd]; exact hj2) ⟨Na ++ Nb, by rw [hNb, hNa, List.append_assoc]⟩ hok2 hb4 (by rw [pz_tm_fold, ← hS1, hcd, ← hS2]) _ _ _ hP hD hS (lv_sub hl [2, 3, 4, 5, 1, 0] rfl)
  exact loop (bl_mt me od o + 1) 0 i G st sl L S fa wy re (by omega) (by omega) hi ⟨[], by simp⟩ hok hbl rfl _ _ _ hP hD hS (lv_sub hl [3, 4, 5, 2, 1, 0] rfl)
def po_B_grow (q : wz_Q) (ab ag am : Nat → Nat) (n b k fw : Nat) (rl rt : Nat → Nat) (fo : Nat → Int32) (M : Nat → Nat → Int32) (sg tu : Nat → Nat → Nat) (od : Nat → Nat) (a0 : Nat) (G : List Nat) (st sl : Nat → Int32) (L : Nat → Nat → Int32) (S : pz_S) (fa : Nat → Int32) (wy : Nat → Int64) (re : Nat → Int32) (ly dp : Nat) (me cm : Int32) (r0 : Nat) (cb : Bool) : Int32 → wz_G → Prop := fun v w => ∃ (G' : List Nat) (st' sl' : Nat → Int32) (L' : Nat → Nat → Int32) (S' : pz_S) (fa' : Nat → Int32) (wy' : Nat → Int64) (re' : Nat → Int32) (ly' dp' : Nat) (cb' : Bool), w = [bl_W q ab (am 0) (ag 0) fw (pz_fact n) fa' wy' re' S'.1.length ly' dp' me (bl_b cb'), gq_W q ag (am 0) (pz_fact n) (2 ^ b) (32 - b) rl st' sl' G'.length, wz_rows 12 rl (fun i9 => .inl (q.1, pz_fact n, .inl (L' i9))), mv_W q am n k rt fo, wz_rows 12 rt (fun i9 => .inl (q.1, 8, .inl (M i9)))] ∧ pz_ball (bl_s n k fw sg tu od me) r0 ly' dp' cb' S' ∧ dp' ≤ ly' ∧ ((cb' = true ∧ v = nI 0 ∧ dp' = dp) ∨ (cb' = false ∧ cb = false ∧ v = nI 1 ∧ dp' = dp + 1)) ∧ (∃ Nw, G' = G ++ Nw) ∧ gq_ok n a0 b k sg tu G' st' sl' L' ∧ bl_ok (pz_fact n) G' S' fa' wy' re'
set_option maxHeartbeats 4000000 in
set_option maxRecDepth 100000 in
/-- the next layer -/
theorem c_B_grow (l : Launch) (D : va_G) (q : wz_Q) (ab ag am : Nat → Nat) (n b k fw : Nat) (rl rt : Nat → Nat) (fo : Nat → Int32) (M : Nat → Nat → Int32) (sg tu : Nat → Nat → Nat) (od : Nat → Nat) (a0 : Nat) (G : List Nat) (st sl : Nat → Int32) (L : Nat → Nat → Int32) (S : pz_S) (fa : Nat → Int32) (wy : Nat → Int64) (re : Nat → Int32) (ly dp : Nat) (me cm : Int32) (r0 : Nat) (cb : Bool) (hn : n ≤ 8) (hb0 : 0 < b) (hb30 : b ≤ 30) (hM : pz_fact n < 2 ^ b) (hk : k ≤ 6) (hfw : fw = 0 ∨ fw = 6) (hmv : mv_ok n k fo M sg tu od) (hok : gq_ok n a0 b k sg tu G st sl L) (hbl : bl_ok (pz_fact n) G S fa wy re) (hball : pz_ball (bl_s n k fw sg tu od me) r0 ly dp cb S) (hcm : cm = bl_b cb) (hdl : dp ≤ ly) : wz_Mi l y_B_grow ws_B_grow ({ frames := 4, cells := 0, slots := 0, locals := 97 } : Room) D q ([.ref (ab 0)] : List Value) [bl_W q ab (am 0) (ag 0) fw (pz_fact n) fa wy re S.1.length ly dp me cm, gq_W q ag (am 0) (pz_fact n) (2 ^ b) (32 - b) rl st sl G.length, wz_rows 12 rl (fun i9 => .inl (q.1, pz_fact n, .inl (L i9))), mv_W q am n k rt fo, wz_rows 12 rt (fun i9 => .inl (q.1, 8, .inl (M i9)))] (po_B_grow q ab ag am n b k fw rl rt fo M sg tu od a0 G st sl L S fa wy re ly dp me cm r0 cb) 0 0 := by
  intro sz9
  refine wz_enter (cc := b_B_grow) (maxL := 4) (ret := (some .boolean)) (Qc := fun A => (va_Qi (po_B_grow q ab ag am n b k fw rl rt fo M sg tu od a0 G st sl L S fa wy re ly dp me cm r0 cb) (wz_At D q A) A)) (by decide) (Nat.le_of_ble_eq_true rfl) ?_
  intro p e s m below meth c A ls C hP hD hS hl
  obtain ⟨hx, hb, hr, hml, hlocks, hown, hts, hN, hK, hA, hnm⟩ := C
  have hown : s.vm.findClass "TwoEndSearch$Ball" = some m.cls := hown
  have hl : lv_has ls 4 [(0, .ref (ab 0))] := hl
  have hfl := pz_fact_le hn
  have hGl := gq_len hok
  have hSl := bl_len hbl
  have hlS := hball.2.1
  subst hcm
  refine lv_aload_n hx hb d_B_grow_0 rfl (lv_at hl 0 rfl) ?_
  refine wz_get (v := .int (nI S.1.length)) (T := T_B) (N := 11) hx hb hts i_B hown hK hP 0 0 rfl rfl rfl 6 (by decide) (hts _ kw_134) rfl rfl d_B_grow_1 ?_
  refine lv_istore_n (lv' := [(1, .int (nI S.1.length)), (0, .ref (ab 0))]) hx hb d_B_grow_4 rfl hl (by decide) rfl (fun ls hl => ?_)
  refine lv_aload_n hx hb d_B_grow_5 rfl (lv_at hl 1 rfl) ?_
  refine wz_get (v := .int (nI ly)) (T := T_B) (N := 11) hx hb hts i_B hown hK hP 0 0 rfl rfl rfl 7 (by decide) (hts _ kw_136) rfl rfl d_B_grow_6 ?_
  refine lv_istore_n (lv' := [(2, .int (nI ly)), (1, .int (nI S.1.length)), (0, .ref (ab 0))]) hx hb d_B_grow_9 rfl hl (by decide) rfl (fun ls hl => ?_)
  cases cb with
  | true =>
    refine lv_iload_n hx hb d_B_grow_10 rfl (lv_at hl 0 rfl) ?_
    refine lv_iload_n hx hb d_B_grow_11 rfl (lv_at hl 1 rfl) ?_
    refine wz_ge (tgt := 58) hx hb d_B_grow_12 (by decide) (by omega) (by omega) (fun hc => ?_) (fun hc => ?_)
    · skip
      exact absurd hc (by omega)
    · skip
      refine lv_aload_n hx hb d_B_grow_15 rfl (lv_at hl 2 rfl) ?_
      refine wz_get (v := .int (bl_b true)) (T := T_B) (N := 11) hx hb hts i_B hown hK hP 0 0 rfl rfl rfl 10 (by decide) (hts _ kw_143) rfl rfl d_B_grow_16 ?_
      refine lv_if_ne (tgt := 58) hx hb d_B_grow_19 (by decide) (fun hc2 => ?_) (fun hc2 => ?_)
      · skip
        have hfull : S.1.length = S.1.length := rfl
        refine lv_aload_n hx hb d_B_grow_58 rfl (lv_at hl 2 rfl) ?_
        refine lv_aload_n hx hb d_B_grow_59 rfl (lv_at hl 2 rfl) ?_
        refine wz_get (v := .int (nI S.1.length)) (T := T_B) (N := 11) hx hb hts i_B hown hK hP 0 0 rfl rfl rfl 6 (by decide) (hts _ kw_134) rfl rfl d_B_grow_60 ?_
        refine lv_iload_n hx hb d_B_grow_63 rfl (lv_at hl 1 rfl) ?_
        refine wz_ne (tgt := 71) hx hb d_B_grow_64 (by decide) (by omega) (by omega) (fun hc7 => ?_) (fun hc7 => ?_)
        · skip
          exact absurd hfull hc7
        · skip
          refine lv_iconst (v := nI 1) hx hb d_B_grow_67 (by decide) ?_
          refine lv_goto (tgt := 72) hx hb d_B_grow_68 (by decide) ?_
          refine wz_put (gs' := [bl_W q ab (am 0) (ag 0) fw (pz_fact n) fa wy re S.1.length ly dp me (nI 1), gq_W q ag (am 0) (pz_fact n) (2 ^ b) (32 - b) rl st sl G.length, wz_rows 12 rl (fun i9 => .inl (q.1, pz_fact n, .inl (L i9))), mv_W q am n k rt fo, wz_rows 12 rt (fun i9 => .inl (q.1, 8, .inl (M i9)))]) (v := .int (nI 1)) (T := T_B) (N := 11) hx hb hts i_B t_B t_B_ok n_B hown hK hP hD hS 0 0 rfl rfl rfl 10 (by decide) (hts _ kw_143) rfl rfl (ty := t_B 10) (by decide +kernel) rfl rfl (Nat.le_of_ble_eq_true rfl) d_B_grow_72 rfl (fun H locs hP hD hS => ?_)
          refine lv_aload_n hx hb d_B_grow_75 rfl (lv_at hl 2 rfl) ?_
          refine wz_get (v := .int (nI 1)) (T := T_B) (N := 11) hx hb hts i_B hown hK hP 0 0 rfl rfl rfl 10 (by decide) (hts _ kw_143) rfl rfl d_B_grow_76 ?_
          refine lv_if_ne (tgt := 97) hx hb d_B_grow_79 (by decide) (fun hc8 => ?_) (fun hc8 => ?_)
          · skip
            refine lv_aload_n hx hb d_B_grow_97 rfl (lv_at hl 2 rfl) ?_
            refine wz_get (v := .int (nI 1)) (T := T_B) (N := 11) hx hb hts i_B hown hK hP 0 0 rfl rfl rfl 10 (by decide) (hts _ kw_143) rfl rfl d_B_grow_98 ?_
            refine lv_if_ne (tgt := 108) hx hb d_B_grow_101 (by decide) (fun hc9 => ?_) (fun hc9 => ?_)
            · skip
              refine lv_iconst (v := nI 0) hx hb d_B_grow_108 (by decide) ?_
              exact wz_zret hx hb hr hlocks hK hP hD hS d_B_grow_109 (by first | exact Or.inl rfl | exact Or.inr rfl) ⟨G, st, sl, L, S, fa, wy, re, ly, dp, true, rfl, hball, hdl, Or.inl ⟨rfl, rfl, rfl⟩, ⟨[], by simp⟩, hok, hbl⟩
            · skip
              exact absurd hc9 (by decide)
          · skip
            exact absurd hc8 (by decide)
      · skip
        exact absurd hc2 (by decide)
  | false =>
    have outer : ∀ (d : Nat) (t : Nat) (G1 : List Nat) (st1 sl1 : Nat → Int32) (L1 : Nat → Nat → Int32) (S1 : pz_S) (fa1 : Nat → Int32) (wy1 : Nat → Int64) (re1 : Nat → Int32), t ≤ S.1.length → S.1.length + 1 ≤ t + d → (∃ Nw, G1 = G ++ Nw) → gq_ok n a0 b k sg tu G1 st1 sl1 L1 → bl_ok (pz_fact n) G1 S1 fa1 wy1 re1 → pz_mid (bl_s n k fw sg tu od me) r0 ly dp S.1.length t S1 → ∀ (H : Heap) (locs : List Loc) (ls : Array Slot), va_P D vwCl ([bl_W q ab (am 0) (ag 0) fw (pz_fact n) fa1 wy1 re1 S1.1.length ly dp me (bl_b false), gq_W q ag (am 0) (pz_fact n) (2 ^ b) (32 - b) rl st1 sl1 G1.length, wz_rows 12 rl (fun i9 => .inl (q.1, pz_fact n, .inl (L1 i9))), mv_W q am n k rt fo, wz_rows 12 rt (fun i9 => .inl (q.1, 8, .inl (M i9)))] : wz_G).flatten H → va_D A ([bl_W q ab (am 0) (ag 0) fw (pz_fact n) fa1 wy1 re1 S1.1.length ly dp me (bl_b false), gq_W q ag (am 0) (pz_fact n) (2 ^ b) (32 - b) rl st1 sl1 G1.length, wz_rows 12 rl (fun i9 => .inl (q.1, pz_fact n, .inl (L1 i9))), mv_W q am n k rt fo, wz_rows 12 rt (fun i9 => .inl (q.1, 8, .inl (M i9)))] : wz_G).flatten → va_S A s.heap H locs → lv_has ls 4 [(0, .ref (ab 0)), (1, .int (nI S.1.length)), (2, .int (nI t))] → W p l e ({ frames := 4, cells := 0, slots := 0, locals := 97 } : Room) s m ([.ref (ab 0)] : List Value).toArray below meth c H locs 0 0 (MQ below (va_Qi (po_B_grow q ab ag am n b k fw rl rt fo M sg tu od a0 G st sl L S fa wy re ly dp me (bl_b false) r0 false) (wz_At D q A) A) ([.ref (ab 0)] : List Value).toArray s 0 0 A) (F0 m 10 ls []) := by
      intro d
      induction d with
      | zero =>
        intro t G1 st1 sl1 L1 S1 fa1 wy1 re1 ht hd hp1 hok1 hbl1 hmid
        omega
      | succ d ih =>
        intro t G1 st1 sl1 L1 S1 fa1 wy1 re1 ht hd hp1 hok1 hbl1 hmid H locs ls hP hD hS hl
        have hS1l := bl_len hbl1
        have hG1l := gq_len hok1
        have hfS := hmid.2.2.2.2.1
        refine lv_iload_n hx hb d_B_grow_10 rfl (lv_at hl 2 rfl) ?_
        refine lv_iload_n hx hb d_B_grow_11 rfl (lv_at hl 1 rfl) ?_
        refine wz_ge (tgt := 58) hx hb d_B_grow_12 (by decide) (by omega) (by omega) (fun hc => ?_) (fun hc => ?_)
        · skip
          have hte : t = S.1.length := by omega
          subst hte
          refine lv_aload_n hx hb d_B_grow_58 rfl (lv_at hl 0 rfl) ?_
          refine lv_aload_n hx hb d_B_grow_59 rfl (lv_at hl 0 rfl) ?_
          refine wz_get (v := .int (nI S1.1.length)) (T := T_B) (N := 11) hx hb hts i_B hown hK hP 0 0 rfl rfl rfl 6 (by decide) (hts _ kw_134) rfl rfl d_B_grow_60 ?_
          refine lv_iload_n hx hb d_B_grow_63 rfl (lv_at hl 1 rfl) ?_
          refine wz_ne (tgt := 71) hx hb d_B_grow_64 (by decide) (by omega) (by omega) (fun hc7 => ?_) (fun hc7 => ?_)
          · skip
            have hball' := pz_mid_end hmid (by omega)
            refine lv_iconst (v := nI 0) hx hb d_B_grow_71 (by decide) ?_
            refine wz_put (gs' := [bl_W q ab (am 0) (ag 0) fw (pz_fact n) fa1 wy1 re1 S1.1.length ly dp me (nI 0), gq_W q ag (am 0) (pz_fact n) (2 ^ b) (32 - b) rl st1 sl1 G1.length, wz_rows 12 rl (fun i9 => .inl (q.1, pz_fact n, .inl (L1 i9))), mv_W q am n k rt fo, wz_rows 12 rt (fun i9 => .inl (q.1, 8, .inl (M i9)))]) (v := .int (nI 0)) (T := T_B) (N := 11) hx hb hts i_B t_B t_B_ok n_B hown hK hP hD hS 0 0 rfl rfl rfl 10 (by decide) (hts _ kw_143) rfl rfl (ty := t_B 10) (by decide +kernel) rfl rfl (Nat.le_of_ble_eq_true rfl) d_B_grow_72 rfl (fun H locs hP hD hS => ?_)
            refine lv_aload_n hx hb d_B_grow_75 rfl (lv_at hl 0 rfl) ?_
            refine wz_get (v := .int (nI 0)) (T := T_B) (N := 11) hx hb hts i_B hown hK hP 0 0 rfl rfl rfl 10 (by decide) (hts _ kw_143) rfl rfl d_B_grow_76 ?_
            refine lv_if_ne (tgt := 97) hx hb d_B_grow_79 (by decide) (fun hc8 => ?_) (fun hc8 => ?_)
            · skip
              exact absurd rfl hc8
            · skip
              refine lv_aload_n hx hb d_B_grow_82 rfl (lv_at hl 0 rfl) ?_
              refine lv_iload_n hx hb d_B_grow_83 rfl (lv_at hl 1 rfl) ?_
              refine wz_put (gs' := [bl_W q ab (am 0) (ag 0) fw (pz_fact n) fa1 wy1 re1 S1.1.length S.1.length dp me (nI 0), gq_W q ag (am 0) (pz_fact n) (2 ^ b) (32 - b) rl st1 sl1 G1.length, wz_rows 12 rl (fun i9 => .inl (q.1, pz_fact n, .inl (L1 i9))), mv_W q am n k rt fo, wz_rows 12 rt (fun i9 => .inl (q.1, 8, .inl (M i9)))]) (v := .int (nI S.1.length)) (T := T_B) (N := 11) hx hb hts i_B t_B t_B_ok n_B hown hK hP hD hS 0 0 rfl rfl rfl 7 (by decide) (hts _ kw_136) rfl rfl (ty := t_B 7) (by decide +kernel) rfl rfl (Nat.le_of_ble_eq_true rfl) d_B_grow_84 rfl (fun H locs hP hD hS => ?_)
              refine lv_aload_n hx hb d_B_grow_87 rfl (lv_at hl 0 rfl) ?_
              refine lv_dup hx hb d_B_grow_88 rfl ?_
              refine wz_get (v := .int (nI dp)) (T := T_B) (N := 11) hx hb hts i_B hown hK hP 0 0 rfl rfl rfl 8 (by decide) (hts _ kw_138) rfl rfl d_B_grow_89 ?_
              refine lv_iconst (v := nI 1) hx hb d_B_grow_92 (by decide) ?_
              refine lv_iadd hx hb d_B_grow_93 ?_
              refine wz_topi (y := nI (dp + 1)) (nI_add dp 1) ?_
              refine wz_put (gs' := [bl_W q ab (am 0) (ag 0) fw (pz_fact n) fa1 wy1 re1 S1.1.length S.1.length (dp + 1) me (nI 0), gq_W q ag (am 0) (pz_fact n) (2 ^ b) (32 - b) rl st1 sl1 G1.length, wz_rows 12 rl (fun i9 => .inl (q.1, pz_fact n, .inl (L1 i9))), mv_W q am n k rt fo, wz_rows 12 rt (fun i9 => .inl (q.1, 8, .inl (M i9)))]) (v := .int (nI (dp + 1))) (T := T_B) (N := 11) hx hb hts i_B t_B t_B_ok n_B hown hK hP hD hS 0 0 rfl rfl rfl 8 (by decide) (hts _ kw_138) rfl rfl (ty := t_B 8) (by decide +kernel) rfl rfl (Nat.le_of_ble_eq_true rfl) d_B_grow_94 rfl (fun H locs hP hD hS => ?_)
              refine lv_aload_n hx hb d_B_grow_97 rfl (lv_at hl 0 rfl) ?_
              refine wz_get (v := .int (nI 0)) (T := T_B) (N := 11) hx hb hts i_B hown hK hP 0 0 rfl rfl rfl 10 (by decide) (hts _ kw_143) rfl rfl d_B_grow_98 ?_
              refine lv_if_ne (tgt := 108) hx hb d_B_grow_101 (by decide) (fun hc9 => ?_) (fun hc9 => ?_)
              · skip
                exact absurd rfl hc9
              · skip
                refine lv_iconst (v := nI 1) hx hb d_B_grow_104 (by decide) ?_
                refine lv_goto (tgt := 109) hx hb d_B_grow_105 (by decide) ?_
                exact wz_zret hx hb hr hlocks hK hP hD hS d_B_grow_109 (by first | exact Or.inl rfl | exact Or.inr rfl) ⟨G1, st1, sl1, L1, S1, fa1, wy1, re1, S.1.length, dp + 1, false, rfl, hball', by omega, Or.inr ⟨rfl, rfl, rfl, rfl⟩, hp1, hok1, hbl1⟩
          · skip
            have hball' := pz_mid_full hmid hc7
            refine lv_iconst (v := nI 1) hx hb d_B_grow_67 (by decide) ?_
            refine lv_goto (tgt := 72) hx hb d_B_grow_68 (by decide) ?_
            refine wz_put (gs' := [bl_W q ab (am 0) (ag 0) fw (pz_fact n) fa1 wy1 re1 S1.1.length ly dp me (nI 1), gq_W q ag (am 0) (pz_fact n) (2 ^ b) (32 - b) rl st1 sl1 G1.length, wz_rows 12 rl (fun i9 => .inl (q.1, pz_fact n, .inl (L1 i9))), mv_W q am n k rt fo, wz_rows 12 rt (fun i9 => .inl (q.1, 8, .inl (M i9)))]) (v := .int (nI 1)) (T := T_B) (N := 11) hx hb hts i_B t_B t_B_ok n_B hown hK hP hD hS 0 0 rfl rfl rfl 10 (by decide) (hts _ kw_143) rfl rfl (ty := t_B 10) (by decide +kernel) rfl rfl (Nat.le_of_ble_eq_true rfl) d_B_grow_72 rfl (fun H locs hP hD hS => ?_)
            refine lv_aload_n hx hb d_B_grow_75 rfl (lv_at hl 0 rfl) ?_
            refine wz_get (v := .int (nI 1)) (T := T_B) (N := 11) hx hb hts i_B hown hK hP 0 0 rfl rfl rfl 10 (by decide) (hts _ kw_143) rfl rfl d_B_grow_76 ?_
            refine lv_if_ne (tgt := 97) hx hb d_B_grow_79 (by decide) (fun hc8 => ?_) (fun hc8 => ?_)
            · skip
              refine lv_aload_n hx hb d_B_grow_97 rfl (lv_at hl 0 rfl) ?_
              refine wz_get (v := .int (nI 1)) (T := T_B) (N := 11) hx hb hts i_B hown hK hP 0 0 rfl rfl rfl 10 (by decide) (hts _ kw_143) rfl rfl d_B_grow_98 ?_
              refine lv_if_ne (tgt := 108) hx hb d_B_grow_101 (by decide) (fun hc9 => ?_) (fun hc9 => ?_)
              · skip
                refine lv_iconst (v := nI 0) hx hb d_B_grow_108 (by decide) ?_
                exact wz_zret hx hb hr hlocks hK hP hD hS d_B_grow_109 (by first | exact Or.inl rfl | exact Or.inr rfl) ⟨G1, st1, sl1, L1, S1, fa1, wy1, re1, ly, dp, true, rfl, hball', hdl, Or.inl ⟨rfl, rfl, rfl⟩, hp1, hok1, hbl1⟩
              · skip
                exact absurd hc9 (by decide)
            · skip
              exact absurd hc8 (by decide)
        · skip
          refine lv_aload_n hx hb d_B_grow_15 rfl (lv_at hl 0 rfl) ?_
          refine wz_get (v := .int (bl_b false)) (T := T_B) (N := 11) hx hb hts i_B hown hK hP 0 0 rfl rfl rfl 10 (by decide) (hts _ kw_143) rfl rfl d_B_grow_16 ?_
          refine lv_if_ne (tgt := 58) hx hb d_B_grow_19 (by decide) (fun hc2 => ?_) (fun hc2 => ?_)
          · skip
            exact absurd rfl hc2
          · skip
            obtain ⟨x, hgx⟩ : ∃ x, S1.1[t]? = some x := ⟨_, List.getElem?_eq_getElem (by omega)⟩
            have hxd := pz_mid_far hmid hc hgx
            refine lv_iconst (v := nI 0) hx hb d_B_grow_22 (by decide) ?_
            refine lv_istore_n (lv' := [(3, .int (nI 0)), (0, .ref (ab 0)), (1, .int (nI S.1.length)), (2, .int (nI t))]) hx hb d_B_grow_23 rfl hl (by decide) rfl (fun ls hl => ?_)
            have inner : ∀ (d2 : Nat) (o : Nat) (G2 : List Nat) (st2 sl2 : Nat → Int32) (L2 : Nat → Nat → Int32) (S2 : pz_S) (fa2 : Nat → Int32) (wy2 : Nat → Int64) (re2 : Nat → Int32), o ≤ k → k + 1 ≤ o + d2 → (∃ Nw, G2 = G ++ Nw) → gq_ok n a0 b k sg tu G2 st2 sl2 L2 → bl_ok (pz_fact n) G2 S2 fa2 wy2 re2 → S2 = (pz_st (bl_g n fw sg tu) (bl_mt me od) o x).foldl (pz_vis (dp + 1) (S1.2.2 x)) S1 → ∀ (H : Heap) (locs : List Loc) (ls : Array Slot), va_P D vwCl ([bl_W q ab (am 0) (ag 0) fw (pz_fact n) fa2 wy2 re2 S2.1.length ly dp me (bl_b false), gq_W q ag (am 0) (pz_fact n) (2 ^ b) (32 - b) rl st2 sl2 G2.length, wz_rows 12 rl (fun i9 => .inl (q.1, pz_fact n, .inl (L2 i9))), mv_W q am n k rt fo, wz_rows 12 rt (fun i9 => .inl (q.1, 8, .inl (M i9)))] : wz_G).flatten H → va_D A ([bl_W q ab (am 0) (ag 0) fw (pz_fact n) fa2 wy2 re2 S2.1.length ly dp me (bl_b false), gq_W q ag (am 0) (pz_fact n) (2 ^ b) (32 - b) rl st2 sl2 G2.length, wz_rows 12 rl (fun i9 => .inl (q.1, pz_fact n, .inl (L2 i9))), mv_W q am n k rt fo, wz_rows 12 rt (fun i9 => .inl (q.1, 8, .inl (M i9)))] : wz_G).flatten → va_S A s.heap H locs → lv_has ls 4 [(0, .ref (ab 0)), (1, .int (nI S.1.length)), (2, .int (nI t)), (3, .int (nI o))] → W p l e ({ frames := 4, cells := 0, slots := 0, locals := 97 } : Room) s m ([.ref (ab 0)] : List Value).toArray below meth c H locs 0 0 (MQ below (va_Qi (po_B_grow q ab ag am n b k fw rl rt fo M sg tu od a0 G st sl L S fa wy re ly dp me (bl_b false) r0 false) (wz_At D q A) A) ([.ref (ab 0)] : List Value).toArray s 0 0 A) (F0 m 24 ls []) := by
              intro d2
              induction d2 with
              | zero =>
                intro o G2 st2 sl2 L2 S2 fa2 wy2 re2 ho hd2 hp2 hok2 hbl2 hS2
                omega
              | succ d2 ih2 =>
                intro o G2 st2 sl2 L2 S2 fa2 wy2 re2 ho hd2 hp2 hok2 hbl2 hS2 H locs ls hP hD hS hl
                have hS2l := bl_len hbl2
                have hG2l := gq_len hok2
                refine lv_iload_n hx hb d_B_grow_24 rfl (lv_at hl 3 rfl) ?_
                refine lv_aload_n hx hb d_B_grow_25 rfl (lv_at hl 0 rfl) ?_
                refine wz_get (v := .ref (am 0)) (T := T_B) (N := 11) hx hb hts i_B hown hK hP 0 0 rfl rfl rfl 0 (by decide) (hts _ kw_125) rfl rfl d_B_grow_26 ?_
                refine wz_getN (v := .int (nI k)) (T := T_M) (N := 4) hx hb hts i_M hown hK hP 3 0 rfl rfl rfl 3 (by decide) (hN.1 _ (List.mem_of_getElem? (i := 1) rfl)) rfl rfl d_B_grow_29 ?_
                refine wz_ge (tgt := 52) hx hb d_B_grow_32 (by decide) (by omega) (by omega) (fun hc3 => ?_) (fun hc3 => ?_)
                · skip
                  have hoe : o = k := by omega
                  subst hoe
                  have hm2 := pz_mid_step hmid hc hgx
                  rw [show (bl_s n o fw sg tu od me x).foldl (pz_vis (dp + 1) (S1.2.2 x)) S1 = S2 from hS2.symm] at hm2
                  refine lv_iinc (v := nI (t + 1)) (lv' := [(2, .int (nI (t + 1))), (0, .ref (ab 0)), (1, .int (nI S.1.length)), (3, .int (nI o))]) hx hb d_B_grow_52 hl (k := 2) rfl (nI_1 t) (by decide) rfl (fun ls hl => ?_)
                  refine lv_goto (tgt := 10) hx hb d_B_grow_55 (by decide) ?_
                  exact ih (t + 1) G2 st2 sl2 L2 S2 fa2 wy2 re2 (by omega) (by omega) hp2 hok2 hbl2 hm2 _ _ _ hP hD hS (lv_sub hl [1, 2, 0] rfl)
                · skip
                  obtain ⟨Nx, hNx, -⟩ := pz_fold_1 (d := dp + 1) (w := S1.2.2 x) (pz_st (bl_g n fw sg tu) (bl_mt me od) o x) S1
                  rw [← hS2] at hNx
                  have hgx2 : S2.1[t]? = some x := by rw [hNx, List.getElem?_append_left (List.getElem?_eq_some_iff.mp hgx).1]; exact hgx
                  have htl2 := (List.getElem?_eq_some_iff.mp hgx2).1
                  obtain ⟨ix, eix, hix⟩ := hbl2.2.2.2 t x hgx2
                  have hk2 := pz_fold_keep (l := pz_st (bl_g n fw sg tu) (bl_mt me od) o x) (w := S1.2.2 x) hxd (show dp ≠ dp + 1 by omega)
                  rw [← hS2] at hk2
                  have hlt2 : ∀ y e, S2.2.1 y = some e → e < 2 ^ 21 := by
                    rw [hS2]
                    refine pz_fold_lt (fun z e hz => ?_) (by omega)
                    have := hmid.1.2.2.2.2.2.1 x dp hgx hxd z e hz
                    omega
                  refine lv_aload_n hx hb d_B_grow_35 rfl (lv_at hl 0 rfl) ?_
                  refine lv_aload_n hx hb d_B_grow_36 rfl (lv_at hl 0 rfl) ?_
                  refine wz_get (v := .ref (ab 3)) (T := T_B) (N := 11) hx hb hts i_B hown hK hP 0 0 rfl rfl rfl 5 (by decide) (hts _ kw_132) rfl rfl d_B_grow_37 ?_
                  refine lv_iload_n hx hb d_B_grow_40 rfl (lv_at hl 2 rfl) ?_
                  refine wz_iald hx hb hK hP 0 3 (j := t) rfl rfl (by omega) (by omega) d_B_grow_41 ?_
                  refine wz_topi (y := nI ix) eix ?_
                  refine lv_iload_n hx hb d_B_grow_42 rfl (lv_at hl 3 rfl) ?_
                  have hQ := wz_split (n := 5) (gc := [bl_W q ab (am 0) (ag 0) fw (pz_fact n) fa2 wy2 re2 S2.1.length ly dp me (bl_b false), gq_W q ag (am 0) (pz_fact n) (2 ^ b) (32 - b) rl st2 sl2 G2.length, wz_rows 12 rl (fun i9 => .inl (q.1, pz_fact n, .inl (L2 i9))), mv_W q am n k rt fo, wz_rows 12 rt (fun i9 => .inl (q.1, 8, .inl (M i9)))]) (gr := []) [0, 1, 2, 3, 4] [] rfl (by decide) rfl rfl hP hD
                  refine wz_callv (va_runV (As := [.int (nI ix), .int (nI o)]) (rest := []) ⟨hx, hb, hml, hown, hts⟩ (c_B_reachFrom l D q ab ag am n b k fw rl rt fo M sg tu od a0 G2 st2 sl2 L2 S2 fa2 wy2 re2 ly dp me (bl_b false) ix x o hn hb0 hb30 hM hk hfw hmv hok2 hbl2 hc3 hix hk2.1 (by omega) hlt2 _) (cwV 2 hts (wz_goodV kw_355 kw_357 kw_8 kw_35 kw_358) rfl rfl rfl (by decide +kernel) ⟨Nat.le_of_ble_eq_true rfl, Nat.le_of_ble_eq_true rfl⟩) (wz_preV (gi := 0) (k := 0) hN hK hQ wz_L_ok rfl rfl rfl) rfl rfl hl.1 rfl (lv_room (Nat.le_of_ble_eq_true rfl)) d_B_grow_43 ⟨Nat.le_of_ble_eq_true rfl, Nat.le_of_ble_eq_true rfl⟩) hQ hS hA (fun gx H locs hp hP hD hS => ?_)
                  obtain ⟨G3, st3, sl3, L3, S3, fa3, wy3, re3, rfl, hS3, ⟨Nb, hNb⟩, hok3, hbl3⟩ := hp
                  obtain ⟨Na, hNa⟩ := hp2
                  obtain ⟨hP, hD⟩ := wz_ord (n := 5) (gs' := [bl_W q ab (am 0) (ag 0) fw (pz_fact n) fa3 wy3 re3 S3.1.length ly dp me (bl_b false), gq_W q ag (am 0) (pz_fact n) (2 ^ b) (32 - b) rl st3 sl3 G3.length, wz_rows 12 rl (fun i9 => .inl (q.1, pz_fact n, .inl (L3 i9))), mv_W q am n k rt fo, wz_rows 12 rt (fun i9 => .inl (q.1, 8, .inl (M i9)))]) [0, 1, 2, 3, 4] rfl (by decide) rfl hP hD
                  refine lv_iinc (v := nI (o + 1)) (lv' := [(3, .int (nI (o + 1))), (0, .ref (ab 0)), (1, .int (nI S.1.length)), (2, .int (nI t))]) hx hb d_B_grow_46 hl (k := 3) rfl (nI_1 o) (by decide) rfl (fun ls hl => ?_)
                  refine lv_goto (tgt := 24) hx hb d_B_grow_49 (by decide) ?_
                  exact ih2 (o + 1) G3 st3 sl3 L3 S3 fa3 wy3 re3 (by omega) (by omega) ⟨Na ++ Nb, by rw [hNb, hNa, List.append_assoc]⟩ hok3 hbl3 (by rw [pz_st_fold, ← hS2, hS3, hk2.2]) _ _ _ hP hD hS (lv_sub hl [1, 2, 3, 0] rfl)
            exact inner (k + 1) 0 G1 st1 sl1 L1 S1 fa1 wy1 re1 (by omega) (by omega) hp1 hok1 hbl1 rfl _ _ _ hP hD hS (lv_sub hl [1, 2, 3, 0] rfl)
    exact outer (S.1.length + 1) ly G st sl L S fa wy re (by omega) (by omega) ⟨[], by simp⟩ hok hbl (pz_mid_0 hball) _ _ _ hP hD hS (lv_sub hl [2, 1, 0] rfl)
