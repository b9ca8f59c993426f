/-! MODULE Search -/
def se_W (q : wz_Q) (a : Nat → Nat) (n : Nat) (mr : Nat) (gr : Nat) (r1 : Nat) (r2 : Nat) (r3 : Nat) (cap : Nat) (rw : Nat → Int32) (bg : Int32) (sx : Nat) (ro : Nat) (ln : Int32) (wz : Int64) : va_W := [(a 0, .inr (3, [.int (nI n), .ref mr, .ref gr, .ref r1, .ref r2, .ref r3, .ref (a 1), .int bg, .int (nI sx), .int (nI ro), .int ln, .long wz])), (a 1, .inl (q.1, cap, .inl rw))]
theorem d_S_meet_0 : decode b_S_meet 0 = .ok (.aload_n 0, 1) := by decide +kernel
theorem d_S_meet_1 : decode b_S_meet 1 = .ok (.getfield 47, 3) := by decide +kernel
theorem d_S_meet_4 : decode b_S_meet 4 = .ok (.aload_n 1, 1) := by decide +kernel
theorem d_S_meet_5 : decode b_S_meet 5 = .ok (.invokevirtual 104, 3) := by decide +kernel
theorem d_S_meet_8 : decode b_S_meet 8 = .ok (.ifCond .eq 29, 3) := by decide +kernel
theorem d_S_meet_11 : decode b_S_meet 11 = .ok (.aload_n 1, 1) := by decide +kernel
theorem d_S_meet_12 : decode b_S_meet 12 = .ok (.getfield 108, 3) := by decide +kernel
theorem d_S_meet_15 : decode b_S_meet 15 = .ok (.aload_n 0, 1) := by decide +kernel
theorem d_S_meet_16 : decode b_S_meet 16 = .ok (.getfield 47, 3) := by decide +kernel
theorem d_S_meet_19 : decode b_S_meet 19 = .ok (.getfield 111, 3) := by decide +kernel
theorem d_S_meet_22 : decode b_S_meet 22 = .ok (.iconst 0, 1) := by decide +kernel
theorem d_S_meet_23 : decode b_S_meet 23 = .ok (.iaload, 1) := by decide +kernel
theorem d_S_meet_24 : decode b_S_meet 24 = .ok (.iaload, 1) := by decide +kernel
theorem d_S_meet_25 : decode b_S_meet 25 = .ok (.istore_n 3, 1) := by decide +kernel
theorem d_S_meet_26 : decode b_S_meet 26 = .ok (.iload_n 3, 1) := by decide +kernel
theorem d_S_meet_27 : decode b_S_meet 27 = .ok (.iload_n 2, 1) := by decide +kernel
theorem d_S_meet_28 : decode b_S_meet 28 = .ok (.if_icmp .gt 7, 3) := by decide +kernel
theorem d_S_meet_31 : decode b_S_meet 31 = .ok (.iload_n 3, 1) := by decide +kernel
theorem d_S_meet_32 : decode b_S_meet 32 = .ok (.goto 4, 3) := by decide +kernel
theorem d_S_meet_35 : decode b_S_meet 35 = .ok (.iconst (-1), 1) := by decide +kernel
theorem d_S_meet_36 : decode b_S_meet 36 = .ok (.ireturn, 1) := by decide +kernel
theorem d_S_meet_37 : decode b_S_meet 37 = .ok (.iconst 0, 1) := by decide +kernel
theorem d_S_meet_38 : decode b_S_meet 38 = .ok (.istore_n 3, 1) := by decide +kernel
theorem d_S_meet_39 : decode b_S_meet 39 = .ok (.iload_n 3, 1) := by decide +kernel
theorem d_S_meet_40 : decode b_S_meet 40 = .ok (.iconst 2, 1) := by decide +kernel
theorem d_S_meet_41 : decode b_S_meet 41 = .ok (.aload_n 0, 1) := by decide +kernel
theorem d_S_meet_42 : decode b_S_meet 42 = .ok (.getfield 50, 3) := by decide +kernel
theorem d_S_meet_45 : decode b_S_meet 45 = .ok (.arraylength, 1) := by decide +kernel
theorem d_S_meet_46 : decode b_S_meet 46 = .ok (.imul, 1) := by decide +kernel
theorem d_S_meet_47 : decode b_S_meet 47 = .ok (.if_icmp .ge 114, 3) := by decide +kernel
theorem d_S_meet_50 : decode b_S_meet 50 = .ok (.aload_n 1, 1) := by decide +kernel
theorem d_S_meet_51 : decode b_S_meet 51 = .ok (.getfield 114, 3) := by decide +kernel
theorem d_S_meet_54 : decode b_S_meet 54 = .ok (.aload_n 0, 1) := by decide +kernel
theorem d_S_meet_55 : decode b_S_meet 55 = .ok (.getfield 47, 3) := by decide +kernel
theorem d_S_meet_58 : decode b_S_meet 58 = .ok (.getfield 114, 3) := by decide +kernel
theorem d_S_meet_61 : decode b_S_meet 61 = .ok (.iadd, 1) := by decide +kernel
theorem d_S_meet_62 : decode b_S_meet 62 = .ok (.iload_n 2, 1) := by decide +kernel
theorem d_S_meet_63 : decode b_S_meet 63 = .ok (.if_icmp .ge 10, 3) := by decide +kernel
theorem d_S_meet_66 : decode b_S_meet 66 = .ok (.aload_n 1, 1) := by decide +kernel
theorem d_S_meet_67 : decode b_S_meet 67 = .ok (.getfield 117, 3) := by decide +kernel
theorem d_S_meet_70 : decode b_S_meet 70 = .ok (.ifCond .eq 5, 3) := by decide +kernel
theorem d_S_meet_73 : decode b_S_meet 73 = .ok (.iconst (-1), 1) := by decide +kernel
theorem d_S_meet_74 : decode b_S_meet 74 = .ok (.ireturn, 1) := by decide +kernel
theorem d_S_meet_75 : decode b_S_meet 75 = .ok (.aload_n 1, 1) := by decide +kernel
theorem d_S_meet_76 : decode b_S_meet 76 = .ok (.invokevirtual 120, 3) := by decide +kernel
theorem d_S_meet_79 : decode b_S_meet 79 = .ok (.aload_n 0, 1) := by decide +kernel
theorem d_S_meet_80 : decode b_S_meet 80 = .ok (.getfield 47, 3) := by decide +kernel
theorem d_S_meet_83 : decode b_S_meet 83 = .ok (.invokevirtual 120, 3) := by decide +kernel
theorem d_S_meet_86 : decode b_S_meet 86 = .ok (.if_icmp .gt 7, 3) := by decide +kernel
theorem d_S_meet_89 : decode b_S_meet 89 = .ok (.iconst 1, 1) := by decide +kernel
theorem d_S_meet_90 : decode b_S_meet 90 = .ok (.goto 4, 3) := by decide +kernel
theorem d_S_meet_93 : decode b_S_meet 93 = .ok (.iconst 0, 1) := by decide +kernel
theorem d_S_meet_94 : decode b_S_meet 94 = .ok (.istore 4, 2) := by decide +kernel
theorem d_S_meet_96 : decode b_S_meet 96 = .ok (.iload 4, 2) := by decide +kernel
theorem d_S_meet_98 : decode b_S_meet 98 = .ok (.ifCond .eq 7, 3) := by decide +kernel
theorem d_S_meet_101 : decode b_S_meet 101 = .ok (.aload_n 1, 1) := by decide +kernel
theorem d_S_meet_102 : decode b_S_meet 102 = .ok (.goto 7, 3) := by decide +kernel
theorem d_S_meet_105 : decode b_S_meet 105 = .ok (.aload_n 0, 1) := by decide +kernel
theorem d_S_meet_106 : decode b_S_meet 106 = .ok (.getfield 47, 3) := by decide +kernel
theorem d_S_meet_109 : decode b_S_meet 109 = .ok (.astore 5, 2) := by decide +kernel
theorem d_S_meet_111 : decode b_S_meet 111 = .ok (.aload 5, 2) := by decide +kernel
theorem d_S_meet_113 : decode b_S_meet 113 = .ok (.invokevirtual 124, 3) := by decide +kernel
theorem d_S_meet_116 : decode b_S_meet 116 = .ok (.ifCond .ne 5, 3) := by decide +kernel
theorem d_S_meet_119 : decode b_S_meet 119 = .ok (.iconst (-1), 1) := by decide +kernel
theorem d_S_meet_120 : decode b_S_meet 120 = .ok (.ireturn, 1) := by decide +kernel
theorem d_S_meet_121 : decode b_S_meet 121 = .ok (.aload 5, 2) := by decide +kernel
theorem d_S_meet_123 : decode b_S_meet 123 = .ok (.iload 4, 2) := by decide +kernel
theorem d_S_meet_125 : decode b_S_meet 125 = .ok (.ifCond .eq 10, 3) := by decide +kernel
theorem d_S_meet_128 : decode b_S_meet 128 = .ok (.aload_n 0, 1) := by decide +kernel
theorem d_S_meet_129 : decode b_S_meet 129 = .ok (.getfield 47, 3) := by decide +kernel
theorem d_S_meet_132 : decode b_S_meet 132 = .ok (.goto 4, 3) := by decide +kernel
theorem d_S_meet_135 : decode b_S_meet 135 = .ok (.aload_n 1, 1) := by decide +kernel
theorem d_S_meet_136 : decode b_S_meet 136 = .ok (.invokevirtual 104, 3) := by decide +kernel
theorem d_S_meet_139 : decode b_S_meet 139 = .ok (.ifCond .eq 16, 3) := by decide +kernel
theorem d_S_meet_142 : decode b_S_meet 142 = .ok (.aload_n 1, 1) := by decide +kernel
theorem d_S_meet_143 : decode b_S_meet 143 = .ok (.getfield 114, 3) := by decide +kernel
theorem d_S_meet_146 : decode b_S_meet 146 = .ok (.aload_n 0, 1) := by decide +kernel
theorem d_S_meet_147 : decode b_S_meet 147 = .ok (.getfield 47, 3) := by decide +kernel
theorem d_S_meet_150 : decode b_S_meet 150 = .ok (.getfield 114, 3) := by decide +kernel
theorem d_S_meet_153 : decode b_S_meet 153 = .ok (.iadd, 1) := by decide +kernel
theorem d_S_meet_154 : decode b_S_meet 154 = .ok (.ireturn, 1) := by decide +kernel
theorem d_S_meet_155 : decode b_S_meet 155 = .ok (.iinc 3 1, 3) := by decide +kernel
theorem d_S_meet_158 : decode b_S_meet 158 = .ok (.goto (-119), 3) := by decide +kernel
theorem d_S_meet_161 : decode b_S_meet 161 = .ok (.iconst (-1), 1) := by decide +kernel
theorem d_S_meet_162 : decode b_S_meet 162 = .ok (.ireturn, 1) := by decide +kernel
theorem kw_174 : (Cond.fieldLink "TwoEndSearch$Search" 47 "TwoEndSearch$Search" "back" "LTwoEndSearch$Ball;" : Cond) ∈ bigW := bigW_of 174 (by decide +kernel) (by decide +kernel)
theorem kw_175 : (Cond.fieldLink "TwoEndSearch$Search" 50 "TwoEndSearch$Search" "row" "[I" : Cond) ∈ bigW := bigW_of 175 (by decide +kernel) (by decide +kernel)
theorem kw_343 : (Cond.methodLink "TwoEndSearch$Search" 104 ⟨"TwoEndSearch$Ball", "lastLayerMeets", "(LTwoEndSearch$Ball;)Z"⟩ : Cond) ∈ bigW := bigW_of 343 (by decide +kernel) (by decide +kernel)
theorem kw_344 : (Cond.instanceMethod ⟨"TwoEndSearch$Ball", "lastLayerMeets", "(LTwoEndSearch$Ball;)Z"⟩ : Cond) ∈ bigW := bigW_of 344 (by decide +kernel) (by decide +kernel)
theorem kw_345 : (Cond.selects "TwoEndSearch$Ball" ⟨"TwoEndSearch$Ball", "lastLayerMeets", "(LTwoEndSearch$Ball;)Z"⟩ ⟨"TwoEndSearch$Ball", "lastLayerMeets", "(LTwoEndSearch$Ball;)Z"⟩ : Cond) ∈ bigW := bigW_of 345 (by decide +kernel) (by decide +kernel)
theorem kw_346 : (Cond.code ⟨"TwoEndSearch$Ball", "lastLayerMeets", "(LTwoEndSearch$Ball;)Z"⟩ prog_2_method_9_code 3 (some .boolean) : Cond) ∈ bigW := bigW_of 346 (by decide +kernel) (by decide +kernel)
theorem kw_347 : (Cond.methodLink "TwoEndSearch$Search" 120 ⟨"TwoEndSearch$Ball", "sizeOfLastLayer", "()I"⟩ : Cond) ∈ bigW := bigW_of 347 (by decide +kernel) (by decide +kernel)
theorem kw_348 : (Cond.instanceMethod ⟨"TwoEndSearch$Ball", "sizeOfLastLayer", "()I"⟩ : Cond) ∈ bigW := bigW_of 348 (by decide +kernel) (by decide +kernel)
theorem kw_349 : (Cond.selects "TwoEndSearch$Ball" ⟨"TwoEndSearch$Ball", "sizeOfLastLayer", "()I"⟩ ⟨"TwoEndSearch$Ball", "sizeOfLastLayer", "()I"⟩ : Cond) ∈ bigW := bigW_of 349 (by decide +kernel) (by decide +kernel)
theorem kw_350 : (Cond.code ⟨"TwoEndSearch$Ball", "sizeOfLastLayer", "()I"⟩ prog_2_method_8_code 1 (some .int) : Cond) ∈ bigW := bigW_of 350 (by decide +kernel) (by decide +kernel)
theorem kw_351 : (Cond.methodLink "TwoEndSearch$Search" 124 ⟨"TwoEndSearch$Ball", "grow", "()Z"⟩ : Cond) ∈ bigW := bigW_of 351 (by decide +kernel) (by decide +kernel)
def po_S_meet (q : wz_Q) (as9 ah ak ag am : Nat → Nat) (n b k : Nat) (rl rt : Nat → Nat) (fo : Nat → Int32) (M : Nat → Nat → Int32) (sg tu : Nat → Nat → Nat) (od : Nat → Nat) (a0 r1 r2 : Nat) (rw : Nat → Int32) (bg : Int32) (sx ro : Nat) (ln : Int32) (wz : Int64) (G : List Nat) (st sl : Nat → Int32) (L : Nat → Nat → Int32) (S : pz_S) (fa : Nat → Int32) (wy : Nat → Int64) (re : Nat → Int32) (ly dp : Nat) (me cm : Int32) (T : pz_S) (fk : Nat → Int32) (wk : Nat → Int64) (rk : Nat → Int32) (lk dk : Nat) (ck : Int32) (sa gl : Nat) (ms9 : Nat) (cb cc : Bool) : Int32 → wz_G → Prop := fun v w => ∃ (G' : List Nat) (st' sl' : Nat → Int32) (L' : Nat → Nat → Int32) (S' : pz_S) (fa' : Nat → Int32) (wy' : Nat → Int64) (re' : Nat → Int32) (ly' dp' : Nat) (cb' : Bool) (T' : pz_S) (fk' : Nat → Int32) (wk' : Nat → Int64) (rk' : Nat → Int32) (lk' dk' : Nat) (cc' : Bool), w = [se_W q as9 n (am 0) (ag 0) r1 r2 (ak 0) (pz_fact n) rw bg sx ro ln wz, bl_W q ah (am 0) (ag 0) 0 (pz_fact n) fa' wy' re' S'.1.length ly' dp' me (bl_b cb'), bl_W q ak (am 0) (ag 0) 6 (pz_fact n) fk' wk' rk' T'.1.length lk' dk' me (bl_b cc'), gq_W q ag (am 0) (pz_fact n) (2 ^ b) (32 - b) rl st' sl' G'.length, wz_rows 12 rl (fun i9 => .inl (q.1, pz_fact n, .inl (L' i9))), mv_W q am n k rt fo, wz_rows 12 rt (fun i9 => .inl (q.1, 8, .inl (M i9)))] ∧ (∃ Nw, G' = G ++ Nw) ∧ gq_ok n a0 b k sg tu G' st' sl' L' ∧ bl_ok (pz_fact n) G' S' fa' wy' re' ∧ bl_ok (pz_fact n) G' T' fk' wk' rk' ∧ pz_ball (bl_s n k 0 sg tu od me) sa ly' dp' cb' S' ∧ pz_ball (bl_s n k 6 sg tu od me) gl lk' dk' cc' T' ∧ dp' ≤ ly' ∧ dk' ≤ lk' ∧ ((v = -1 ∧ ∀ K9, pz_dist (bl_s n k 0 sg tu od me) sa gl K9 → ms9 < K9) ∨ ∃ len i9, v = nI len ∧ pz_dist (bl_s n k 0 sg tu od me) sa gl len ∧ len ≤ ms9 ∧ len = i9 + dk' ∧ i9 ≤ dp')
set_option maxHeartbeats 4000000 in
set_option maxRecDepth 100000 in
/-- the balls grow until they meet -/
theorem c_S_meet (l : Launch) (D : va_G) (q : wz_Q) (as9 ah ak ag am : Nat → Nat) (n b k : Nat) (rl rt : Nat → Nat) (fo : Nat → Int32) (M : Nat → Nat → Int32) (sg tu : Nat → Nat → Nat) (od : Nat → Nat) (a0 r1 r2 : Nat) (rw : Nat → Int32) (bg : Int32) (sx ro : Nat) (ln : Int32) (wz : Int64) (G : List Nat) (st sl : Nat → Int32) (L : Nat → Nat → Int32) (S : pz_S) (fa : Nat → Int32) (wy : Nat → Int64) (re : Nat → Int32) (ly dp : Nat) (me cm : Int32) (T : pz_S) (fk : Nat → Int32) (wk : Nat → Int64) (rk : Nat → Int32) (lk dk : Nat) (ck : Int32) (sa gl : Nat) (ms9 : Nat) (cb cc : Bool) (hn : n ≤ 8) (hb0 : 0 < b) (hb30 : b ≤ 30) (hM : pz_fact n < 2 ^ b) (hk : k ≤ 6) (hmv : mv_ok n k fo M sg tu od) (hok : gq_ok n a0 b k sg tu G st sl L) (hblS : bl_ok (pz_fact n) G S fa wy re) (hblT : bl_ok (pz_fact n) G T fk wk rk) (hrv : ∀ u v, pz_cnt v (bl_s n k 0 sg tu od me u) = pz_cnt u (bl_s n k 6 sg tu od me v)) (hms : ms9 < 2 ^ 31) (hbS : pz_ball (bl_s n k 0 sg tu od me) sa ly dp cb S) (hcm : cm = bl_b cb) (hdS : dp ≤ ly) (hT0 : T = pz_S0 gl) (hlk : lk = 0) (hdk : dk = 0) (hck : ck = bl_b false) : wz_Mi l y_S_meet ws_S_meet ({ frames := 5, cells := 0, slots := 0, locals := 120 } : Room) D q ([.ref (as9 0), .ref (ah 0), .int (nI ms9)] : List Value) [se_W q as9 n (am 0) (ag 0) r1 r2 (ak 0) (pz_fact n) rw bg sx ro ln wz, bl_W q ah (am 0) (ag 0) 0 (pz_fact n) fa wy re S.1.length ly dp me cm, bl_W q ak (am 0) (ag 0) 6 (pz_fact n) fk wk rk T.1.length lk dk me ck, gq_W q ag (am 0) (pz_fact n) (2 ^ b) (32 - b) rl st sl G.length, wz_rows 12 rl (fun i9 => .inl (q.1, pz_fact n, .inl (L i9))), mv_W q am n k rt fo, wz_rows 12 rt (fun i9 => .inl (q.1, 8, .inl (M i9)))] (po_S_meet q as9 ah ak ag am n b k rl rt fo M sg tu od a0 r1 r2 rw bg sx ro ln wz G st sl L S fa wy re ly dp me cm T fk wk rk lk dk ck sa gl ms9 cb cc) 0 0 := by
  intro sz9
  refine wz_enter (cc := b_S_meet) (maxL := 6) (ret := (some .int)) (Qc := fun A => (va_Qi (po_S_meet q as9 ah ak ag am n b k rl rt fo M sg tu od a0 r1 r2 rw bg sx ro ln wz G st sl L S fa wy re ly dp me cm T fk wk rk lk dk ck sa gl ms9 cb cc) (wz_At D q A) A)) (by decide) (Nat.le_of_ble_eq_true rfl) ?_
  intro p e s m below meth c A ls C hP hD hS hl
  obtain ⟨hx, hb, hr, hml, hlocks, hown, hts, hN, hK, hA, hnm⟩ := C
  have hown : s.vm.findClass "TwoEndSearch$Search" = some m.cls := hown
  have hl : lv_has ls 6 [(0, .ref (as9 0)), (1, .ref (ah 0)), (2, .int (nI ms9))] := hl
  have hfl := pz_fact_le hn
  have hGl := gq_len hok
  have hSl := bl_len hblS
  have hTl := bl_len hblT
  have hlyS := hbS.2.1
  subst hcm; subst hlk; subst hdk; subst hck
  have hbT : pz_ball (bl_s n k 6 sg tu od me) gl 0 0 false T := by rw [hT0]; exact pz_ball_0 _ _
  have hlyT := hbT.2.1
  have hltS : ∀ x e, S.2.1 x = some e → e < 2 ^ 30 := pz_ball_lt hbS (by omega)
  refine lv_aload_n hx hb d_S_meet_0 rfl (lv_at hl 0 rfl) ?_
  refine wz_get (v := .ref (ak 0)) (T := T_S) (N := 12) hx hb hts i_S hown hK hP 0 0 rfl rfl rfl 5 (by decide) (hts _ kw_174) rfl rfl d_S_meet_1 ?_
  refine lv_aload_n hx hb d_S_meet_4 rfl (lv_at hl 1 rfl) ?_
  have hQ := wz_split (n := 7) (gc := [bl_W q ak (am 0) (ag 0) 6 (pz_fact n) fk wk rk T.1.length 0 0 me (bl_b false), bl_W q ah (am 0) (ag 0) 0 (pz_fact n) fa wy re S.1.length ly dp me (bl_b cb)]) (gr := [se_W q as9 n (am 0) (ag 0) r1 r2 (ak 0) (pz_fact n) rw bg sx ro ln wz, gq_W q ag (am 0) (pz_fact n) (2 ^ b) (32 - b) rl st sl G.length, wz_rows 12 rl (fun i9 => .inl (q.1, pz_fact n, .inl (L i9))), mv_W q am n k rt fo, wz_rows 12 rt (fun i9 => .inl (q.1, 8, .inl (M i9)))]) [2, 1] [0, 3, 4, 5, 6] rfl (by decide) rfl rfl hP hD
  refine wz_calli (va_runV (As := [.ref (ah 0)]) (rest := []) ⟨hx, hb, hml, hown, hts⟩ (c_B_lastLayerMeets l D q ak ah (am 0) (ag 0) 6 (pz_fact n) fk wk rk 0 0 me (bl_b false) 0 fa wy re S.1.length ly dp me (bl_b cb) G T S (by omega) hGl (by omega) hblT hblS hltS _) (cwV 1 hts (wz_goodV kw_343 kw_344 kw_345 kw_35 kw_346) rfl rfl rfl (by decide +kernel) ⟨Nat.le_of_ble_eq_true rfl, Nat.le_of_ble_eq_true rfl⟩) (wz_preV (gi := 0) (k := 0) hN hK hQ wz_L_ok rfl rfl rfl) rfl rfl hl.1 rfl (lv_room (Nat.le_of_ble_eq_true rfl)) d_S_meet_5 ⟨Nat.le_of_ble_eq_true rfl, Nat.le_of_ble_eq_true rfl⟩) hQ hS hA (fun v_5 gx H locs hp0 hP hD hS => ?_)
  obtain ⟨rfl, hp0⟩ := hp0
  obtain ⟨hP, hD⟩ := wz_ord (n := 7) (gs' := [se_W q as9 n (am 0) (ag 0) r1 r2 (ak 0) (pz_fact n) rw bg sx ro ln wz, bl_W q ah (am 0) (ag 0) 0 (pz_fact n) fa wy re S.1.length ly dp me (bl_b cb), bl_W q ak (am 0) (ag 0) 6 (pz_fact n) fk wk rk T.1.length 0 0 me (bl_b false), gq_W q ag (am 0) (pz_fact n) (2 ^ b) (32 - b) rl st sl G.length, wz_rows 12 rl (fun i9 => .inl (q.1, pz_fact n, .inl (L i9))), mv_W q am n k rt fo, wz_rows 12 rt (fun i9 => .inl (q.1, 8, .inl (M i9)))]) [2, 1, 0, 3, 4, 5, 6] rfl (by decide) rfl hP hD
  refine lv_if_eq (tgt := 37) hx hb d_S_meet_8 (by decide) (fun hc => ?_) (fun hc => ?_)
  · skip
    have hno0 : S.2.1 gl = none := by
      cases hq : S.2.1 gl with
      | none => rfl
      | some e => exact absurd ⟨0, gl, Nat.le_refl 0, by rw [hT0]; rfl, pz_sn hq⟩ (wz_bit_0 hp0 hc)
    have hno : ∀ x, ¬ (S.2.1 x ≠ none ∧ T.2.1 x ≠ none) := by
      rintro x ⟨q1, q2⟩
      by_cases e0 : x = gl
      · rw [e0] at q1; exact q1 hno0
      · rw [hT0] at q2; exact q2 (pz_up_n (fun _ => none) (some 0) e0)
    refine lv_iconst (v := nI 0) hx hb d_S_meet_37 (by decide) ?_
    refine lv_istore_n (lv' := [(3, .int (nI 0)), (0, .ref (as9 0)), (1, .ref (ah 0)), (2, .int (nI ms9))]) hx hb d_S_meet_38 rfl hl (by decide) rfl (fun ls hl => ?_)
    have loop : ∀ (d : Nat) (t : Nat) (G1 : List Nat) (st1 sl1 : Nat → Int32) (L1 : Nat → Nat → Int32) (S1 : pz_S) (fa1 : Nat → Int32) (wy1 : Nat → Int64) (re1 : Nat → Int32) (ly1 dp1 : Nat) (cb1 : Bool) (T1 : pz_S) (fk1 : Nat → Int32) (wk1 : Nat → Int64) (rk1 : Nat → Int32) (lk1 dk1 : Nat) (cc1 : Bool), (∃ Nw, G1 = G ++ Nw) → gq_ok n a0 b k sg tu G1 st1 sl1 L1 → bl_ok (pz_fact n) G1 S1 fa1 wy1 re1 → bl_ok (pz_fact n) G1 T1 fk1 wk1 rk1 → pz_ball (bl_s n k 0 sg tu od me) sa ly1 dp1 cb1 S1 → pz_ball (bl_s n k 6 sg tu od me) gl lk1 dk1 cc1 T1 → dp1 ≤ ly1 → dk1 ≤ lk1 → (∀ x, ¬ (S1.2.1 x ≠ none ∧ T1.2.1 x ≠ none)) → t ≤ dp1 + dk1 → 2 * pz_fact n + 1 ≤ t + d → ∀ (H : Heap) (locs : List Loc) (ls : Array Slot), va_P D vwCl ([se_W q as9 n (am 0) (ag 0) r1 r2 (ak 0) (pz_fact n) rw bg sx ro ln wz, bl_W q ah (am 0) (ag 0) 0 (pz_fact n) fa1 wy1 re1 S1.1.length ly1 dp1 me (bl_b cb1), bl_W q ak (am 0) (ag 0) 6 (pz_fact n) fk1 wk1 rk1 T1.1.length lk1 dk1 me (bl_b cc1), gq_W q ag (am 0) (pz_fact n) (2 ^ b) (32 - b) rl st1 sl1 G1.length, wz_rows 12 rl (fun i9 => .inl (q.1, pz_fact n, .inl (L1 i9))), mv_W q am n k rt fo, wz_rows 12 rt (fun i9 => .inl (q.1, 8, .inl (M i9)))] : wz_G).flatten H → va_D A ([se_W q as9 n (am 0) (ag 0) r1 r2 (ak 0) (pz_fact n) rw bg sx ro ln wz, bl_W q ah (am 0) (ag 0) 0 (pz_fact n) fa1 wy1 re1 S1.1.length ly1 dp1 me (bl_b cb1), bl_W q ak (am 0) (ag 0) 6 (pz_fact n) fk1 wk1 rk1 T1.1.length lk1 dk1 me (bl_b cc1), gq_W q ag (am 0) (pz_fact n) (2 ^ b) (32 - b) rl st1 sl1 G1.length, wz_rows 12 rl (fun i9 => .inl (q.1, pz_fact n, .inl (L1 i9))), mv_W q am n k rt fo, wz_rows 12 rt (fun i9 => .inl (q.1, 8, .inl (M i9)))] : wz_G).flatten → va_S A s.heap H locs → lv_has ls 6 [(0, .ref (as9 0)), (1, .ref (ah 0)), (2, .int (nI ms9)), (3, .int (nI t))] → W p l e ({ frames := 5, cells := 0, slots := 0, locals := 120 } : Room) s m ([.ref (as9 0), .ref (ah 0), .int (nI ms9)] : List Value).toArray below meth c H locs 0 0 (MQ below (va_Qi (po_S_meet q as9 ah ak ag am n b k rl rt fo M sg tu od a0 r1 r2 rw bg sx ro ln wz G st sl L S fa wy re ly dp me (bl_b cb) T fk wk rk 0 0 (bl_b false) sa gl ms9 cb cc) (wz_At D q A) A) ([.ref (as9 0), .ref (ah 0), .int (nI ms9)] : List Value).toArray s 0 0 A) (F0 m 39 ls []) := by
      intro d
      induction d with
      | zero =>
        intro t G1 st1 sl1 L1 S1 fa1 wy1 re1 ly1 dp1 cb1 T1 fk1 wk1 rk1 lk1 dk1 cc1 hp1 hok1 hS1 hT1 hbS1 hbT1 hdS1 hdT1 hno1 h9 hd
        exfalso; have := hbS1.2.1; have := hbT1.2.1; have := bl_len hS1; have := bl_len hT1; have := gq_len hok1; omega
      | succ d ih =>
        intro t G1 st1 sl1 L1 S1 fa1 wy1 re1 ly1 dp1 cb1 T1 fk1 wk1 rk1 lk1 dk1 cc1 hp1 hok1 hS1 hT1 hbS1 hbT1 hdS1 hdT1 hno1 h9 hd H locs ls hP hD hS hl
        have hG1l := gq_len hok1
        have hS1l := bl_len hS1
        have hT1l := bl_len hT1
        have hlyS1 := hbS1.2.1
        have hlyT1 := hbT1.2.1
        refine lv_iload_n hx hb d_S_meet_39 rfl (lv_at hl 3 rfl) ?_
        refine lv_iconst (v := nI 2) hx hb d_S_meet_40 (by decide) ?_
        refine lv_aload_n hx hb d_S_meet_41 rfl (lv_at hl 0 rfl) ?_
        refine wz_get (v := .ref (as9 1)) (T := T_S) (N := 12) hx hb hts i_S hown hK hP 0 0 rfl rfl rfl 6 (by decide) (hts _ kw_175) rfl rfl d_S_meet_42 ?_
        refine wz_alen hx hb hK hP 0 1 (n := pz_fact n) rfl rfl d_S_meet_45 ?_
        refine lv_imul hx hb d_S_meet_46 ?_
        refine wz_topi (y := nI (2 * (pz_fact n))) (pk_mul 2 (pz_fact n)) ?_
        refine wz_ge (tgt := 161) hx hb d_S_meet_47 (by decide) (by omega) (by omega) (fun hc2 => ?_) (fun hc2 => ?_)
        · skip
          exfalso; omega
        · skip
          refine lv_aload_n hx hb d_S_meet_50 rfl (lv_at hl 1 rfl) ?_
          refine wz_getN (v := .int (nI dp1)) (T := T_B) (N := 11) hx hb hts i_B hown hK hP 1 0 rfl rfl rfl 8 (by decide) (hN.1 _ (List.mem_of_getElem? (i := 10) rfl)) rfl rfl d_S_meet_51 ?_
          refine lv_aload_n hx hb d_S_meet_54 rfl (lv_at hl 0 rfl) ?_
          refine wz_get (v := .ref (ak 0)) (T := T_S) (N := 12) hx hb hts i_S hown hK hP 0 0 rfl rfl rfl 5 (by decide) (hts _ kw_174) rfl rfl d_S_meet_55 ?_
          refine wz_getN (v := .int (nI dk1)) (T := T_B) (N := 11) hx hb hts i_B hown hK hP 2 0 rfl rfl rfl 8 (by decide) (hN.1 _ (List.mem_of_getElem? (i := 10) rfl)) rfl rfl d_S_meet_58 ?_
          refine lv_iadd hx hb d_S_meet_61 ?_
          refine wz_topi (y := nI (dp1 + dk1)) (nI_add dp1 dk1) ?_
          refine lv_iload_n hx hb d_S_meet_62 rfl (lv_at hl 2 rfl) ?_
          refine wz_ge (tgt := 73) hx hb d_S_meet_63 (by decide) (by omega) (by omega) (fun hc3 => ?_) (fun hc3 => ?_)
          · skip
            refine lv_iconst (v := (-1)) hx hb d_S_meet_73 (by decide) ?_
            exact wz_iret hx hb hr hlocks hK hP hD hS d_S_meet_74 ⟨G1, st1, sl1, L1, S1, fa1, wy1, re1, ly1, dp1, cb1, T1, fk1, wk1, rk1, lk1, dk1, cc1, rfl, hp1, hok1, hS1, hT1, hbS1, hbT1, hdS1, hdT1, (Or.inl ⟨rfl, fun K9 hK9 => Nat.lt_of_le_of_lt hc3 (pz_apart hrv hbS1 hbT1 hno1 hK9)⟩)⟩
          · skip
            refine lv_aload_n hx hb d_S_meet_66 rfl (lv_at hl 1 rfl) ?_
            refine wz_getN (v := .int (bl_b cb1)) (T := T_B) (N := 11) hx hb hts i_B hown hK hP 1 0 rfl rfl rfl 10 (by decide) (hN.1 _ (List.mem_of_getElem? (i := 13) rfl)) rfl rfl d_S_meet_67 ?_
            refine lv_if_eq (tgt := 75) hx hb d_S_meet_70 (by decide) (fun hc4 => ?_) (fun hc4 => ?_)
            · skip
              have hcb1 : cb1 = false := by cases cb1 with | true => exact absurd hc4 (by decide) | false => rfl
              subst hcb1
              refine lv_aload_n hx hb d_S_meet_75 rfl (lv_at hl 1 rfl) ?_
              have hQ := wz_split (n := 7) (gc := [bl_W q ah (am 0) (ag 0) 0 (pz_fact n) fa1 wy1 re1 S1.1.length ly1 dp1 me (bl_b false)]) (gr := [se_W q as9 n (am 0) (ag 0) r1 r2 (ak 0) (pz_fact n) rw bg sx ro ln wz, bl_W q ak (am 0) (ag 0) 6 (pz_fact n) fk1 wk1 rk1 T1.1.length lk1 dk1 me (bl_b cc1), gq_W q ag (am 0) (pz_fact n) (2 ^ b) (32 - b) rl st1 sl1 G1.length, wz_rows 12 rl (fun i9 => .inl (q.1, pz_fact n, .inl (L1 i9))), mv_W q am n k rt fo, wz_rows 12 rt (fun i9 => .inl (q.1, 8, .inl (M i9)))]) [1] [0, 2, 3, 4, 5, 6] rfl (by decide) rfl rfl hP hD
              refine wz_calli (va_runV (As := []) (rest := []) ⟨hx, hb, hml, hown, hts⟩ (c_B_sizeOfLastLayer l D q ah (am 0) (ag 0) 0 (pz_fact n) fa1 wy1 re1 S1.1.length ly1 dp1 me (bl_b false) (by omega) _) (cwV 0 hts (wz_goodV kw_347 kw_348 kw_349 kw_35 kw_350) rfl rfl rfl (by decide +kernel) ⟨Nat.le_of_ble_eq_true rfl, Nat.le_of_ble_eq_true rfl⟩) (wz_preV (gi := 0) (k := 0) hN hK hQ wz_L_ok rfl rfl rfl) rfl rfl hl.1 rfl (lv_room (Nat.le_of_ble_eq_true rfl)) d_S_meet_76 ⟨Nat.le_of_ble_eq_true rfl, Nat.le_of_ble_eq_true rfl⟩) hQ hS hA (fun v_76 gx H locs hp hP hD hS => ?_)
              obtain ⟨rfl, rfl⟩ := hp
              obtain ⟨hP, hD⟩ := wz_ord (n := 7) (gs' := [se_W q as9 n (am 0) (ag 0) r1 r2 (ak 0) (pz_fact n) rw bg sx ro ln wz, bl_W q ah (am 0) (ag 0) 0 (pz_fact n) fa1 wy1 re1 S1.1.length ly1 dp1 me (bl_b false), bl_W q ak (am 0) (ag 0) 6 (pz_fact n) fk1 wk1 rk1 T1.1.length lk1 dk1 me (bl_b cc1), gq_W q ag (am 0) (pz_fact n) (2 ^ b) (32 - b) rl st1 sl1 G1.length, wz_rows 12 rl (fun i9 => .inl (q.1, pz_fact n, .inl (L1 i9))), mv_W q am n k rt fo, wz_rows 12 rt (fun i9 => .inl (q.1, 8, .inl (M i9)))]) [1, 0, 2, 3, 4, 5, 6] rfl (by decide) rfl hP hD
              refine lv_aload_n hx hb d_S_meet_79 rfl (lv_at hl 0 rfl) ?_
              refine wz_get (v := .ref (ak 0)) (T := T_S) (N := 12) hx hb hts i_S hown hK hP 0 0 rfl rfl rfl 5 (by decide) (hts _ kw_174) rfl rfl d_S_meet_80 ?_
              have hQ := wz_split (n := 7) (gc := [bl_W q ak (am 0) (ag 0) 6 (pz_fact n) fk1 wk1 rk1 T1.1.length lk1 dk1 me (bl_b cc1)]) (gr := [se_W q as9 n (am 0) (ag 0) r1 r2 (ak 0) (pz_fact n) rw bg sx ro ln wz, bl_W q ah (am 0) (ag 0) 0 (pz_fact n) fa1 wy1 re1 S1.1.length ly1 dp1 me (bl_b false), gq_W q ag (am 0) (pz_fact n) (2 ^ b) (32 - b) rl st1 sl1 G1.length, wz_rows 12 rl (fun i9 => .inl (q.1, pz_fact n, .inl (L1 i9))), mv_W q am n k rt fo, wz_rows 12 rt (fun i9 => .inl (q.1, 8, .inl (M i9)))]) [2] [0, 1, 3, 4, 5, 6] rfl (by decide) rfl rfl hP hD
              refine wz_calli (va_runV (As := []) (rest := [.int (nI (S1.1.length - ly1))]) ⟨hx, hb, hml, hown, hts⟩ (c_B_sizeOfLastLayer l D q ak (am 0) (ag 0) 6 (pz_fact n) fk1 wk1 rk1 T1.1.length lk1 dk1 me (bl_b cc1) (by omega) _) (cwV 0 hts (wz_goodV kw_347 kw_348 kw_349 kw_35 kw_350) rfl rfl rfl (by decide +kernel) ⟨Nat.le_of_ble_eq_true rfl, Nat.le_of_ble_eq_true rfl⟩) (wz_preV (gi := 0) (k := 0) hN hK hQ wz_L_ok rfl rfl rfl) rfl rfl hl.1 rfl (lv_room (Nat.le_of_ble_eq_true rfl)) d_S_meet_83 ⟨Nat.le_of_ble_eq_true rfl, Nat.le_of_ble_eq_true rfl⟩) hQ hS hA (fun v_83 gx H locs hp hP hD hS => ?_)
              obtain ⟨rfl, rfl⟩ := hp
              obtain ⟨hP, hD⟩ := wz_ord (n := 7) (gs' := [se_W q as9 n (am 0) (ag 0) r1 r2 (ak 0) (pz_fact n) rw bg sx ro ln wz, bl_W q ah (am 0) (ag 0) 0 (pz_fact n) fa1 wy1 re1 S1.1.length ly1 dp1 me (bl_b false), bl_W q ak (am 0) (ag 0) 6 (pz_fact n) fk1 wk1 rk1 T1.1.length lk1 dk1 me (bl_b cc1), gq_W q ag (am 0) (pz_fact n) (2 ^ b) (32 - b) rl st1 sl1 G1.length, wz_rows 12 rl (fun i9 => .inl (q.1, pz_fact n, .inl (L1 i9))), mv_W q am n k rt fo, wz_rows 12 rt (fun i9 => .inl (q.1, 8, .inl (M i9)))]) [1, 2, 0, 3, 4, 5, 6] rfl (by decide) rfl hP hD
              refine wz_gt (tgt := 93) hx hb d_S_meet_86 (by decide) (by omega) (by omega) (fun hc5 => ?_) (fun hc5 => ?_)
              · skip
                refine lv_iconst (v := nI 0) hx hb d_S_meet_93 (by decide) ?_
                refine lv_istore (lv' := [(4, .int (nI 0)), (0, .ref (as9 0)), (1, .ref (ah 0)), (2, .int (nI ms9)), (3, .int (nI t))]) hx hb d_S_meet_94 hl (by decide) rfl (fun ls hl => ?_)
                refine lv_iload hx hb d_S_meet_96 (lv_at hl 0 rfl) ?_
                refine lv_if_eq (tgt := 105) hx hb d_S_meet_98 (by decide) (fun hc6 => ?_) (fun hc6 => ?_)
                · skip
                  refine lv_aload_n hx hb d_S_meet_105 rfl (lv_at hl 1 rfl) ?_
                  refine wz_get (v := .ref (ak 0)) (T := T_S) (N := 12) hx hb hts i_S hown hK hP 0 0 rfl rfl rfl 5 (by decide) (hts _ kw_174) rfl rfl d_S_meet_106 ?_
                  refine lv_astore (lv' := [(5, .ref (ak 0)), (4, .int (nI 0)), (0, .ref (as9 0)), (1, .ref (ah 0)), (2, .int (nI ms9)), (3, .int (nI t))]) hx hb d_S_meet_109 hl (by decide) rfl (fun ls hl => ?_)
                  refine lv_aload hx hb d_S_meet_111 (lv_at hl 0 rfl) ?_
                  have hQ := wz_split (n := 7) (gc := [bl_W q ak (am 0) (ag 0) 6 (pz_fact n) fk1 wk1 rk1 T1.1.length lk1 dk1 me (bl_b cc1), gq_W q ag (am 0) (pz_fact n) (2 ^ b) (32 - b) rl st1 sl1 G1.length, wz_rows 12 rl (fun i9 => .inl (q.1, pz_fact n, .inl (L1 i9))), mv_W q am n k rt fo, wz_rows 12 rt (fun i9 => .inl (q.1, 8, .inl (M i9)))]) (gr := [se_W q as9 n (am 0) (ag 0) r1 r2 (ak 0) (pz_fact n) rw bg sx ro ln wz, bl_W q ah (am 0) (ag 0) 0 (pz_fact n) fa1 wy1 re1 S1.1.length ly1 dp1 me (bl_b false)]) [2, 3, 4, 5, 6] [0, 1] rfl (by decide) rfl rfl hP hD
                  refine wz_calli (va_runV (As := []) (rest := []) ⟨hx, hb, hml, hown, hts⟩ (c_B_grow l D q ak ag am n b k 6 rl rt fo M sg tu od a0 G1 st1 sl1 L1 T1 fk1 wk1 rk1 lk1 dk1 me (bl_b cc1) gl cc1 hn hb0 hb30 hM hk (Or.inr rfl) hmv hok1 hT1 hbT1 rfl hdT1 _) (cwV 0 hts (wz_goodV kw_351 kw_352 kw_353 kw_35 kw_354) rfl rfl rfl (by decide +kernel) ⟨Nat.le_of_ble_eq_true rfl, Nat.le_of_ble_eq_true rfl⟩) (wz_preV (gi := 0) (k := 0) hN hK hQ wz_L_ok rfl rfl rfl) rfl rfl hl.1 rfl (lv_room (Nat.le_of_ble_eq_true rfl)) d_S_meet_113 ⟨Nat.le_of_ble_eq_true rfl, Nat.le_of_ble_eq_true rfl⟩) hQ hS hA (fun v_113 gx H locs hp hP hD hS => ?_)
                  obtain ⟨G2, st2, sl2, L2, T2, fk2, wk2, rk2, lk2, dk2, cc2, rfl, hbT2, hdT2, hres, ⟨Nb, hNb⟩, hok2, hT2⟩ := hp
                  obtain ⟨Na, hNa⟩ := hp1
                  have hG2l := gq_len hok2
                  have hS2 := bl_more hS1 ⟨Nb, hNb⟩ hok2.1 hG2l
                  obtain ⟨hP, hD⟩ := wz_ord (n := 7) (gs' := [se_W q as9 n (am 0) (ag 0) r1 r2 (ak 0) (pz_fact n) rw bg sx ro ln wz, bl_W q ah (am 0) (ag 0) 0 (pz_fact n) fa1 wy1 re1 S1.1.length ly1 dp1 me (bl_b false), bl_W q ak (am 0) (ag 0) 6 (pz_fact n) fk2 wk2 rk2 T2.1.length lk2 dk2 me (bl_b cc2), gq_W q ag (am 0) (pz_fact n) (2 ^ b) (32 - b) rl st2 sl2 G2.length, wz_rows 12 rl (fun i9 => .inl (q.1, pz_fact n, .inl (L2 i9))), mv_W q am n k rt fo, wz_rows 12 rt (fun i9 => .inl (q.1, 8, .inl (M i9)))]) [5, 6, 0, 1, 2, 3, 4] rfl (by decide) rfl hP hD
                  refine lv_if_ne (tgt := 121) hx hb d_S_meet_116 (by decide) (fun hc7 => ?_) (fun hc7 => ?_)
                  · skip
                    have hres2 := hres.resolve_left (fun q => hc7 (by rw [q.2.1]; rfl))
                    obtain ⟨hcb2, hcc1, -, hdp2⟩ := hres2
                    have hT2l := bl_len hT2
                    have hlyT2 := hbT2.2.1
                    have hltS1 : ∀ x e, S1.2.1 x = some e → e < 2 ^ 30 := pz_ball_lt hbS1 (by omega)
                    refine lv_aload hx hb d_S_meet_121 (lv_at hl 0 rfl) ?_
                    refine lv_iload hx hb d_S_meet_123 (lv_at hl 1 rfl) ?_
                    refine lv_if_eq (tgt := 135) hx hb d_S_meet_125 (by decide) (fun hc8 => ?_) (fun hc8 => ?_)
                    · skip
                      refine lv_aload_n hx hb d_S_meet_135 rfl (lv_at hl 3 rfl) ?_
                      have hQ := wz_split (n := 7) (gc := [bl_W q ak (am 0) (ag 0) 6 (pz_fact n) fk2 wk2 rk2 T2.1.length lk2 dk2 me (bl_b cc2), bl_W q ah (am 0) (ag 0) 0 (pz_fact n) fa1 wy1 re1 S1.1.length ly1 dp1 me (bl_b false)]) (gr := [se_W q as9 n (am 0) (ag 0) r1 r2 (ak 0) (pz_fact n) rw bg sx ro ln wz, gq_W q ag (am 0) (pz_fact n) (2 ^ b) (32 - b) rl st2 sl2 G2.length, wz_rows 12 rl (fun i9 => .inl (q.1, pz_fact n, .inl (L2 i9))), mv_W q am n k rt fo, wz_rows 12 rt (fun i9 => .inl (q.1, 8, .inl (M i9)))]) [2, 1] [0, 3, 4, 5, 6] rfl (by decide) rfl rfl hP hD
                      refine wz_calli (va_runV (As := [.ref (ah 0)]) (rest := []) ⟨hx, hb, hml, hown, hts⟩ (c_B_lastLayerMeets l D q ak ah (am 0) (ag 0) 6 (pz_fact n) fk2 wk2 rk2 lk2 dk2 me (bl_b cc2) 0 fa1 wy1 re1 S1.1.length ly1 dp1 me (bl_b false) G2 T2 S1 (by omega) hG2l (by omega) hT2 hS2 hltS1 _) (cwV 1 hts (wz_goodV kw_343 kw_344 kw_345 kw_35 kw_346) rfl rfl rfl (by decide +kernel) ⟨Nat.le_of_ble_eq_true rfl, Nat.le_of_ble_eq_true rfl⟩) (wz_preV (gi := 0) (k := 0) hN hK hQ wz_L_ok rfl rfl rfl) rfl rfl hl.1 rfl (lv_room (Nat.le_of_ble_eq_true rfl)) d_S_meet_136 ⟨Nat.le_of_ble_eq_true rfl, Nat.le_of_ble_eq_true rfl⟩) hQ hS hA (fun v_136 gx H locs hp8 hP hD hS => ?_)
                      obtain ⟨rfl, hp8⟩ := hp8
                      obtain ⟨hP, hD⟩ := wz_ord (n := 7) (gs' := [se_W q as9 n (am 0) (ag 0) r1 r2 (ak 0) (pz_fact n) rw bg sx ro ln wz, bl_W q ah (am 0) (ag 0) 0 (pz_fact n) fa1 wy1 re1 S1.1.length ly1 dp1 me (bl_b false), bl_W q ak (am 0) (ag 0) 6 (pz_fact n) fk2 wk2 rk2 T2.1.length lk2 dk2 me (bl_b cc2), gq_W q ag (am 0) (pz_fact n) (2 ^ b) (32 - b) rl st2 sl2 G2.length, wz_rows 12 rl (fun i9 => .inl (q.1, pz_fact n, .inl (L2 i9))), mv_W q am n k rt fo, wz_rows 12 rt (fun i9 => .inl (q.1, 8, .inl (M i9)))]) [2, 1, 0, 3, 4, 5, 6] rfl (by decide) rfl hP hD
                      refine lv_if_eq (tgt := 155) hx hb d_S_meet_139 (by decide) (fun hc9 => ?_) (fun hc9 => ?_)
                      · skip
                        have hno2 : ∀ x, ¬ (S1.2.1 x ≠ none ∧ T2.2.1 x ≠ none) := by
                          rintro x ⟨q1, q2⟩
                          obtain ⟨e, he⟩ := pz_mem_far hbT2.1.1 ((hbT2.1.1.2 x).mpr q2)
                          have hle := pz_ball_le hbT2 he
                          by_cases z : e ≤ dk1
                          · exact hno1 x ⟨q1, pz_sn (pz_ball_near hbT1 (Or.inl z) (pz_ball_exact hbT2 he))⟩
                          · obtain ⟨i, hi1, hi2⟩ := (pz_ball_last hbT2).mp (show T2.2.1 x = some dk2 by rw [he]; congr 1; omega)
                            exact wz_bit_0 hp8 hc9 ⟨i, x, hi1, hi2, q1⟩
                        refine lv_iinc (v := nI (t + 1)) (lv' := [(3, .int (nI (t + 1))), (5, .ref (ak 0)), (4, .int (nI 0)), (0, .ref (as9 0)), (1, .ref (ah 0)), (2, .int (nI ms9))]) hx hb d_S_meet_155 hl (k := 5) rfl (nI_1 t) (by decide) rfl (fun ls hl => ?_)
                        refine lv_goto (tgt := 39) hx hb d_S_meet_158 (by decide) ?_
                        exact ih (t + 1) G2 st2 sl2 L2 S1 fa1 wy1 re1 ly1 dp1 false T2 fk2 wk2 rk2 lk2 dk2 cc2 ⟨Na ++ Nb, by rw [hNb, hNa, List.append_assoc]⟩ hok2 hS2 hT2 hbS1 hbT2 hdS1 hdT2 hno2 (by omega) (by omega) _ _ _ hP hD hS (lv_sub hl [3, 4, 5, 0] rfl)
                      · skip
                        obtain ⟨i, x, hi1, hi2, hx3⟩ := wz_bit_1 hp8 hc9
                        have hdist := pz_meet hrv hbS1 hbT2 hx3 (pz_sn ((pz_ball_last hbT2).mpr ⟨i, hi1, hi2⟩)) (fun K9 hK9 => by have := pz_apart hrv hbS1 hbT1 hno1 hK9; omega)
                        refine lv_aload_n hx hb d_S_meet_142 rfl (lv_at hl 3 rfl) ?_
                        refine wz_getN (v := .int (nI dp1)) (T := T_B) (N := 11) hx hb hts i_B hown hK hP 1 0 rfl rfl rfl 8 (by decide) (hN.1 _ (List.mem_of_getElem? (i := 10) rfl)) rfl rfl d_S_meet_143 ?_
                        refine lv_aload_n hx hb d_S_meet_146 rfl (lv_at hl 2 rfl) ?_
                        refine wz_get (v := .ref (ak 0)) (T := T_S) (N := 12) hx hb hts i_S hown hK hP 0 0 rfl rfl rfl 5 (by decide) (hts _ kw_174) rfl rfl d_S_meet_147 ?_
                        refine wz_getN (v := .int (nI dk2)) (T := T_B) (N := 11) hx hb hts i_B hown hK hP 2 0 rfl rfl rfl 8 (by decide) (hN.1 _ (List.mem_of_getElem? (i := 10) rfl)) rfl rfl d_S_meet_150 ?_
                        refine lv_iadd hx hb d_S_meet_153 ?_
                        refine wz_topi (y := nI (dp1 + dk2)) (nI_add dp1 dk2) ?_
                        exact wz_iret hx hb hr hlocks hK hP hD hS d_S_meet_154 ⟨G2, st2, sl2, L2, S1, fa1, wy1, re1, ly1, dp1, false, T2, fk2, wk2, rk2, lk2, dk2, cc2, rfl, ⟨Na ++ Nb, by rw [hNb, hNa, List.append_assoc]⟩, hok2, hS2, hT2, hbS1, hbT2, hdS1, hdT2, (Or.inr ⟨dp1 + dk2, dp1, rfl, hdist, by omega, rfl, Nat.le_refl _⟩)⟩
                    · skip
                      exact absurd hc8 (by decide)
                  · skip
                    have hres2 := hres.resolve_right (fun q => absurd hc7 (by rw [q.2.2.1]; decide))
                    obtain ⟨rfl, -, hdp2⟩ := hres2
                    have hno2 : ∀ x, ¬ (S1.2.1 x ≠ none ∧ T2.2.1 x ≠ none) := by
                      rintro x ⟨q1, q2⟩
                      obtain ⟨e, he⟩ := pz_mem_far hbT2.1.1 ((hbT2.1.1.2 x).mpr q2)
                      have hle := pz_ball_le hbT2 he
                      exact hno1 x ⟨q1, pz_sn (pz_ball_near hbT1 (Or.inl (by omega)) (pz_ball_exact hbT2 he))⟩
                    refine lv_iconst (v := (-1)) hx hb d_S_meet_119 (by decide) ?_
                    exact wz_iret hx hb hr hlocks hK hP hD hS d_S_meet_120 ⟨G2, st2, sl2, L2, S1, fa1, wy1, re1, ly1, dp1, false, T2, fk2, wk2, rk2, lk2, dk2, true, rfl, ⟨Na ++ Nb, by rw [hNb, hNa, List.append_assoc]⟩, hok2, hS2, hT2, hbS1, hbT2, hdS1, hdT2, (Or.inl ⟨rfl, fun K9 hK9 => absurd hK9 (pz_no_row hrv hbS1 hbT2 hno2 (Or.inr rfl) K9)⟩)⟩
                · skip
                  exact absurd hc6 (by decide)
              · skip
                refine lv_iconst (v := nI 1) hx hb d_S_meet_89 (by decide) ?_
                refine lv_goto (tgt := 94) hx hb d_S_meet_90 (by decide) ?_
                refine lv_istore (lv' := [(4, .int (nI 1)), (0, .ref (as9 0)), (1, .ref (ah 0)), (2, .int (nI ms9)), (3, .int (nI t))]) hx hb d_S_meet_94 hl (by decide) rfl (fun ls hl => ?_)
                refine lv_iload hx hb d_S_meet_96 (lv_at hl 0 rfl) ?_
                refine lv_if_eq (tgt := 105) hx hb d_S_meet_98 (by decide) (fun hc6 => ?_) (fun hc6 => ?_)
                · skip
                  exact absurd hc6 (by decide)
                · skip
                  refine lv_aload_n hx hb d_S_meet_101 rfl (lv_at hl 2 rfl) ?_
                  refine lv_goto (tgt := 109) hx hb d_S_meet_102 (by decide) ?_
                  refine lv_astore (lv' := [(5, .ref (ah 0)), (4, .int (nI 1)), (0, .ref (as9 0)), (1, .ref (ah 0)), (2, .int (nI ms9)), (3, .int (nI t))]) hx hb d_S_meet_109 hl (by decide) rfl (fun ls hl => ?_)
                  refine lv_aload hx hb d_S_meet_111 (lv_at hl 0 rfl) ?_
                  have hQ := wz_split (n := 7) (gc := [bl_W q ah (am 0) (ag 0) 0 (pz_fact n) fa1 wy1 re1 S1.1.length ly1 dp1 me (bl_b false), gq_W q ag (am 0) (pz_fact n) (2 ^ b) (32 - b) rl st1 sl1 G1.length, wz_rows 12 rl (fun i9 => .inl (q.1, pz_fact n, .inl (L1 i9))), mv_W q am n k rt fo, wz_rows 12 rt (fun i9 => .inl (q.1, 8, .inl (M i9)))]) (gr := [se_W q as9 n (am 0) (ag 0) r1 r2 (ak 0) (pz_fact n) rw bg sx ro ln wz, bl_W q ak (am 0) (ag 0) 6 (pz_fact n) fk1 wk1 rk1 T1.1.length lk1 dk1 me (bl_b cc1)]) [1, 3, 4, 5, 6] [0, 2] rfl (by decide) rfl rfl hP hD
                  refine wz_calli (va_runV (As := []) (rest := []) ⟨hx, hb, hml, hown, hts⟩ (c_B_grow l D q ah ag am n b k 0 rl rt fo M sg tu od a0 G1 st1 sl1 L1 S1 fa1 wy1 re1 ly1 dp1 me (bl_b false) sa false hn hb0 hb30 hM hk (Or.inl rfl) hmv hok1 hS1 hbS1 rfl hdS1 _) (cwV 0 hts (wz_goodV kw_351 kw_352 kw_353 kw_35 kw_354) rfl rfl rfl (by decide +kernel) ⟨Nat.le_of_ble_eq_true rfl, Nat.le_of_ble_eq_true rfl⟩) (wz_preV (gi := 0) (k := 0) hN hK hQ wz_L_ok rfl rfl rfl) rfl rfl hl.1 rfl (lv_room (Nat.le_of_ble_eq_true rfl)) d_S_meet_113 ⟨Nat.le_of_ble_eq_true rfl, Nat.le_of_ble_eq_true rfl⟩) hQ hS hA (fun v_113 gx H locs hp hP hD hS => ?_)
                  obtain ⟨G2, st2, sl2, L2, S2, fa2, wy2, re2, ly2, dp2, cb2, rfl, hbS2, hdS2, hres, ⟨Nb, hNb⟩, hok2, hS2⟩ := hp
                  obtain ⟨Na, hNa⟩ := hp1
                  have hG2l := gq_len hok2
                  have hT2 := bl_more hT1 ⟨Nb, hNb⟩ hok2.1 hG2l
                  obtain ⟨hP, hD⟩ := wz_ord (n := 7) (gs' := [se_W q as9 n (am 0) (ag 0) r1 r2 (ak 0) (pz_fact n) rw bg sx ro ln wz, bl_W q ah (am 0) (ag 0) 0 (pz_fact n) fa2 wy2 re2 S2.1.length ly2 dp2 me (bl_b cb2), bl_W q ak (am 0) (ag 0) 6 (pz_fact n) fk1 wk1 rk1 T1.1.length lk1 dk1 me (bl_b cc1), gq_W q ag (am 0) (pz_fact n) (2 ^ b) (32 - b) rl st2 sl2 G2.length, wz_rows 12 rl (fun i9 => .inl (q.1, pz_fact n, .inl (L2 i9))), mv_W q am n k rt fo, wz_rows 12 rt (fun i9 => .inl (q.1, 8, .inl (M i9)))]) [5, 0, 6, 1, 2, 3, 4] rfl (by decide) rfl hP hD
                  refine lv_if_ne (tgt := 121) hx hb d_S_meet_116 (by decide) (fun hc7 => ?_) (fun hc7 => ?_)
                  · skip
                    have hres2 := hres.resolve_left (fun q => hc7 (by rw [q.2.1]; rfl))
                    obtain ⟨hcb2, -, -, hdp2⟩ := hres2
                    have hS2l := bl_len hS2
                    have hlyS2 := hbS2.2.1
                    have hltT : ∀ x e, T1.2.1 x = some e → e < 2 ^ 30 := pz_ball_lt hbT1 (by omega)
                    refine lv_aload hx hb d_S_meet_121 (lv_at hl 0 rfl) ?_
                    refine lv_iload hx hb d_S_meet_123 (lv_at hl 1 rfl) ?_
                    refine lv_if_eq (tgt := 135) hx hb d_S_meet_125 (by decide) (fun hc8 => ?_) (fun hc8 => ?_)
                    · skip
                      exact absurd hc8 (by decide)
                    · skip
                      refine lv_aload_n hx hb d_S_meet_128 rfl (lv_at hl 2 rfl) ?_
                      refine wz_get (v := .ref (ak 0)) (T := T_S) (N := 12) hx hb hts i_S hown hK hP 0 0 rfl rfl rfl 5 (by decide) (hts _ kw_174) rfl rfl d_S_meet_129 ?_
                      refine lv_goto (tgt := 136) hx hb d_S_meet_132 (by decide) ?_
                      have hQ := wz_split (n := 7) (gc := [bl_W q ah (am 0) (ag 0) 0 (pz_fact n) fa2 wy2 re2 S2.1.length ly2 dp2 me (bl_b cb2), bl_W q ak (am 0) (ag 0) 6 (pz_fact n) fk1 wk1 rk1 T1.1.length lk1 dk1 me (bl_b cc1)]) (gr := [se_W q as9 n (am 0) (ag 0) r1 r2 (ak 0) (pz_fact n) rw bg sx ro ln wz, gq_W q ag (am 0) (pz_fact n) (2 ^ b) (32 - b) rl st2 sl2 G2.length, wz_rows 12 rl (fun i9 => .inl (q.1, pz_fact n, .inl (L2 i9))), mv_W q am n k rt fo, wz_rows 12 rt (fun i9 => .inl (q.1, 8, .inl (M i9)))]) [1, 2] [0, 3, 4, 5, 6] rfl (by decide) rfl rfl hP hD
                      refine wz_calli (va_runV (As := [.ref (ak 0)]) (rest := []) ⟨hx, hb, hml, hown, hts⟩ (c_B_lastLayerMeets l D q ah ak (am 0) (ag 0) 0 (pz_fact n) fa2 wy2 re2 ly2 dp2 me (bl_b cb2) 6 fk1 wk1 rk1 T1.1.length lk1 dk1 me (bl_b cc1) G2 S2 T1 (by omega) hG2l (by omega) hS2 hT2 hltT _) (cwV 1 hts (wz_goodV kw_343 kw_344 kw_345 kw_35 kw_346) rfl rfl rfl (by decide +kernel) ⟨Nat.le_of_ble_eq_true rfl, Nat.le_of_ble_eq_true rfl⟩) (wz_preV (gi := 0) (k := 0) hN hK hQ wz_L_ok rfl rfl rfl) rfl rfl hl.1 rfl (lv_room (Nat.le_of_ble_eq_true rfl)) d_S_meet_136 ⟨Nat.le_of_ble_eq_true rfl, Nat.le_of_ble_eq_true rfl⟩) hQ hS hA (fun v_136 gx H locs hp8 hP hD hS => ?_)
                      obtain ⟨rfl, hp8⟩ := hp8
                      obtain ⟨hP, hD⟩ := wz_ord (n := 7) (gs' := [se_W q as9 n (am 0) (ag 0) r1 r2 (ak 0) (pz_fact n) rw bg sx ro ln wz, bl_W q ah (am 0) (ag 0) 0 (pz_fact n) fa2 wy2 re2 S2.1.length ly2 dp2 me (bl_b cb2), bl_W q ak (am 0) (ag 0) 6 (pz_fact n) fk1 wk1 rk1 T1.1.length lk1 dk1 me (bl_b cc1), gq_W q ag (am 0) (pz_fact n) (2 ^ b) (32 - b) rl st2 sl2 G2.length, wz_rows 12 rl (fun i9 => .inl (q.1, pz_fact n, .inl (L2 i9))), mv_W q am n k rt fo, wz_rows 12 rt (fun i9 => .inl (q.1, 8, .inl (M i9)))]) [2, 0, 1, 3, 4, 5, 6] rfl (by decide) rfl hP hD
                      refine lv_if_eq (tgt := 155) hx hb d_S_meet_139 (by decide) (fun hc9 => ?_) (fun hc9 => ?_)
                      · skip
                        have hno2 : ∀ x, ¬ (S2.2.1 x ≠ none ∧ T1.2.1 x ≠ none) := by
                          rintro x ⟨q1, q2⟩
                          obtain ⟨e, he⟩ := pz_mem_far hbS2.1.1 ((hbS2.1.1.2 x).mpr q1)
                          have hle := pz_ball_le hbS2 he
                          by_cases z : e ≤ dp1
                          · exact hno1 x ⟨pz_sn (pz_ball_near hbS1 (Or.inl z) (pz_ball_exact hbS2 he)), q2⟩
                          · obtain ⟨i, hi1, hi2⟩ := (pz_ball_last hbS2).mp (show S2.2.1 x = some dp2 by rw [he]; congr 1; omega)
                            exact wz_bit_0 hp8 hc9 ⟨i, x, hi1, hi2, q2⟩
                        refine lv_iinc (v := nI (t + 1)) (lv' := [(3, .int (nI (t + 1))), (5, .ref (ah 0)), (4, .int (nI 1)), (0, .ref (as9 0)), (1, .ref (ah 0)), (2, .int (nI ms9))]) hx hb d_S_meet_155 hl (k := 5) rfl (nI_1 t) (by decide) rfl (fun ls hl => ?_)
                        refine lv_goto (tgt := 39) hx hb d_S_meet_158 (by decide) ?_
                        exact ih (t + 1) G2 st2 sl2 L2 S2 fa2 wy2 re2 ly2 dp2 cb2 T1 fk1 wk1 rk1 lk1 dk1 cc1 ⟨Na ++ Nb, by rw [hNb, hNa, List.append_assoc]⟩ hok2 hS2 hT2 hbS2 hbT1 hdS2 hdT1 hno2 (by omega) (by omega) _ _ _ hP hD hS (lv_sub hl [3, 4, 5, 0] rfl)
                      · skip
                        obtain ⟨i, x, hi1, hi2, hx3⟩ := wz_bit_1 hp8 hc9
                        have hdist := pz_meet hrv hbS2 hbT1 (pz_sn ((pz_ball_last hbS2).mpr ⟨i, hi1, hi2⟩)) hx3 (fun K9 hK9 => by have := pz_apart hrv hbS1 hbT1 hno1 hK9; omega)
                        refine lv_aload_n hx hb d_S_meet_142 rfl (lv_at hl 3 rfl) ?_
                        refine wz_getN (v := .int (nI dp2)) (T := T_B) (N := 11) hx hb hts i_B hown hK hP 1 0 rfl rfl rfl 8 (by decide) (hN.1 _ (List.mem_of_getElem? (i := 10) rfl)) rfl rfl d_S_meet_143 ?_
                        refine lv_aload_n hx hb d_S_meet_146 rfl (lv_at hl 2 rfl) ?_
                        refine wz_get (v := .ref (ak 0)) (T := T_S) (N := 12) hx hb hts i_S hown hK hP 0 0 rfl rfl rfl 5 (by decide) (hts _ kw_174) rfl rfl d_S_meet_147 ?_
                        refine wz_getN (v := .int (nI dk1)) (T := T_B) (N := 11) hx hb hts i_B hown hK hP 2 0 rfl rfl rfl 8 (by decide) (hN.1 _ (List.mem_of_getElem? (i := 10) rfl)) rfl rfl d_S_meet_150 ?_
                        refine lv_iadd hx hb d_S_meet_153 ?_
                        refine wz_topi (y := nI (dp2 + dk1)) (nI_add dp2 dk1) ?_
                        exact wz_iret hx hb hr hlocks hK hP hD hS d_S_meet_154 ⟨G2, st2, sl2, L2, S2, fa2, wy2, re2, ly2, dp2, cb2, T1, fk1, wk1, rk1, lk1, dk1, cc1, rfl, ⟨Na ++ Nb, by rw [hNb, hNa, List.append_assoc]⟩, hok2, hS2, hT2, hbS2, hbT1, hdS2, hdT1, (Or.inr ⟨dp2 + dk1, dp2, rfl, hdist, by omega, rfl, Nat.le_refl _⟩)⟩
                  · skip
                    have hres2 := hres.resolve_right (fun q => absurd hc7 (by rw [q.2.2.1]; decide))
                    obtain ⟨rfl, -, hdp2⟩ := hres2
                    have hno2 : ∀ x, ¬ (S2.2.1 x ≠ none ∧ T1.2.1 x ≠ none) := by
                      rintro x ⟨q1, q2⟩
                      obtain ⟨e, he⟩ := pz_mem_far hbS2.1.1 ((hbS2.1.1.2 x).mpr q1)
                      have hle := pz_ball_le hbS2 he
                      exact hno1 x ⟨pz_sn (pz_ball_near hbS1 (Or.inl (by omega)) (pz_ball_exact hbS2 he)), q2⟩
                    refine lv_iconst (v := (-1)) hx hb d_S_meet_119 (by decide) ?_
                    exact wz_iret hx hb hr hlocks hK hP hD hS d_S_meet_120 ⟨G2, st2, sl2, L2, S2, fa2, wy2, re2, ly2, dp2, true, T1, fk1, wk1, rk1, lk1, dk1, cc1, rfl, ⟨Na ++ Nb, by rw [hNb, hNa, List.append_assoc]⟩, hok2, hS2, hT2, hbS2, hbT1, hdS2, hdT1, (Or.inl ⟨rfl, fun K9 hK9 => absurd hK9 (pz_no_row hrv hbS2 hbT1 hno2 (Or.inl rfl) K9)⟩)⟩
            · skip
              have hcb1 : cb1 = true := by cases cb1 with | true => rfl | false => exact absurd rfl hc4
              refine lv_iconst (v := (-1)) hx hb d_S_meet_73 (by decide) ?_
              exact wz_iret hx hb hr hlocks hK hP hD hS d_S_meet_74 ⟨G1, st1, sl1, L1, S1, fa1, wy1, re1, ly1, dp1, cb1, T1, fk1, wk1, rk1, lk1, dk1, cc1, rfl, hp1, hok1, hS1, hT1, hbS1, hbT1, hdS1, hdT1, (Or.inl ⟨rfl, fun K9 hK9 => absurd hK9 (pz_no_row hrv hbS1 hbT1 hno1 (Or.inl hcb1) K9)⟩)⟩
    exact loop (2 * pz_fact n + 1) 0 G st sl L S fa wy re ly dp cb T fk wk rk 0 0 false ⟨[], by simp⟩ hok hblS hblT hbS hbT hdS (Nat.le_refl 0) hno (by omega) (by omega) _ _ _ hP hD hS (lv_sub hl [1, 2, 3, 0] rfl)
  · skip
    have hin : S.2.1 gl ≠ none := by
      obtain ⟨i, x, -, h2, h3⟩ := wz_bit_1 hp0 hc
      rw [hT0] at h2
      have h4 : x ∈ [gl] := List.mem_of_getElem? h2
      rw [List.mem_singleton.mp h4] at h3; exact h3
    obtain ⟨e, he⟩ := pz_mem_far hbS.1.1 ((hbS.1.1.2 gl).mpr hin)
    have hel := hltS gl e he
    obtain ⟨jx, ejx, hjx⟩ := hblT.2.2.2 0 gl (by rw [hT0]; rfl)
    have hjl := (List.getElem?_eq_some_iff.mp hjx).1
    have hdist := pz_ball_exact hbS he
    refine lv_aload_n hx hb d_S_meet_11 rfl (lv_at hl 1 rfl) ?_
    refine wz_getN (v := .ref (ah 1)) (T := T_B) (N := 11) hx hb hts i_B hown hK hP 1 0 rfl rfl rfl 3 (by decide) (hN.1 _ (List.mem_of_getElem? (i := 5) rfl)) rfl rfl d_S_meet_12 ?_
    refine lv_aload_n hx hb d_S_meet_15 rfl (lv_at hl 0 rfl) ?_
    refine wz_get (v := .ref (ak 0)) (T := T_S) (N := 12) hx hb hts i_S hown hK hP 0 0 rfl rfl rfl 5 (by decide) (hts _ kw_174) rfl rfl d_S_meet_16 ?_
    refine wz_getN (v := .ref (ak 3)) (T := T_B) (N := 11) hx hb hts i_B hown hK hP 2 0 rfl rfl rfl 5 (by decide) (hN.1 _ (List.mem_of_getElem? (i := 7) rfl)) rfl rfl d_S_meet_19 ?_
    refine lv_iconst (v := nI 0) hx hb d_S_meet_22 (by decide) ?_
    refine wz_iald hx hb hK hP 2 3 (j := 0) rfl rfl (by omega) (by omega) d_S_meet_23 ?_
    refine wz_topi (y := nI jx) ejx ?_
    refine wz_iald hx hb hK hP 1 1 (j := jx) rfl rfl (by omega) (by omega) d_S_meet_24 ?_
    refine wz_topi (y := nI e) ((hblS.2.1 jx gl hjx).1.trans (by rw [he]; rfl)) ?_
    refine lv_istore_n (lv' := [(3, .int (nI e)), (0, .ref (as9 0)), (1, .ref (ah 0)), (2, .int (nI ms9))]) hx hb d_S_meet_25 rfl hl (by decide) rfl (fun ls hl => ?_)
    refine lv_iload_n hx hb d_S_meet_26 rfl (lv_at hl 0 rfl) ?_
    refine lv_iload_n hx hb d_S_meet_27 rfl (lv_at hl 3 rfl) ?_
    refine wz_gt (tgt := 35) hx hb d_S_meet_28 (by decide) (by omega) (by omega) (fun hc2 => ?_) (fun hc2 => ?_)
    · skip
      refine lv_iconst (v := (-1)) hx hb d_S_meet_35 (by decide) ?_
      exact wz_iret hx hb hr hlocks hK hP hD hS d_S_meet_36 ⟨G, st, sl, L, S, fa, wy, re, ly, dp, cb, T, fk, wk, rk, 0, 0, false, rfl, ⟨[], by simp⟩, hok, hblS, hblT, hbS, hbT, hdS, Nat.le_refl 0, (Or.inl ⟨rfl, fun K9 hK9 => by rw [pz_dist_eq hK9 hdist]; exact hc2⟩)⟩
    · skip
      refine lv_iload_n hx hb d_S_meet_31 rfl (lv_at hl 0 rfl) ?_
      refine lv_goto (tgt := 36) hx hb d_S_meet_32 (by decide) ?_
      exact wz_iret hx hb hr hlocks hK hP hD hS d_S_meet_36 ⟨G, st, sl, L, S, fa, wy, re, ly, dp, cb, T, fk, wk, rk, 0, 0, false, rfl, ⟨[], by simp⟩, hok, hblS, hblT, hbS, hbT, hdS, Nat.le_refl 0, (Or.inr ⟨e, e, rfl, hdist, hc2, rfl, pz_ball_le hbS he⟩)⟩
