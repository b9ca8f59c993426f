theorem d_X_begunSearch_0 : decode b_X_begunSearch 0 = .ok (.aload_n 0, 1) := by decide +kernel
theorem d_X_begunSearch_1 : decode b_X_begunSearch 1 = .ok (.getfield 78, 3) := by decide +kernel
theorem d_X_begunSearch_4 : decode b_X_begunSearch 4 = .ok (.ifnonnull 22, 3) := by decide +kernel
theorem d_X_begunSearch_7 : decode b_X_begunSearch 7 = .ok (.aload_n 0, 1) := by decide +kernel
theorem d_X_begunSearch_8 : decode b_X_begunSearch 8 = .ok (.new 74, 3) := by decide +kernel
theorem d_X_begunSearch_11 : decode b_X_begunSearch 11 = .ok (.dup, 1) := by decide +kernel
theorem d_X_begunSearch_12 : decode b_X_begunSearch 12 = .ok (.aload_n 0, 1) := by decide +kernel
theorem d_X_begunSearch_13 : decode b_X_begunSearch 13 = .ok (.getfield 18, 3) := by decide +kernel
theorem d_X_begunSearch_16 : decode b_X_begunSearch 16 = .ok (.aload_n 0, 1) := by decide +kernel
theorem d_X_begunSearch_17 : decode b_X_begunSearch 17 = .ok (.getfield 27, 3) := by decide +kernel
theorem d_X_begunSearch_20 : decode b_X_begunSearch 20 = .ok (.invokespecial 119, 3) := by decide +kernel
theorem d_X_begunSearch_23 : decode b_X_begunSearch 23 = .ok (.putfield 78, 3) := by decide +kernel
theorem d_X_begunSearch_26 : decode b_X_begunSearch 26 = .ok (.aload_n 0, 1) := by decide +kernel
theorem d_X_begunSearch_27 : decode b_X_begunSearch 27 = .ok (.getfield 78, 3) := by decide +kernel
theorem d_X_begunSearch_30 : decode b_X_begunSearch 30 = .ok (.aload_n 0, 1) := by decide +kernel
theorem d_X_begunSearch_31 : decode b_X_begunSearch 31 = .ok (.getfield 35, 3) := by decide +kernel
theorem d_X_begunSearch_34 : decode b_X_begunSearch 34 = .ok (.invokevirtual 122, 3) := by decide +kernel
theorem d_X_begunSearch_37 : decode b_X_begunSearch 37 = .ok (.aload_n 0, 1) := by decide +kernel
theorem d_X_begunSearch_38 : decode b_X_begunSearch 38 = .ok (.getfield 78, 3) := by decide +kernel
theorem d_X_begunSearch_41 : decode b_X_begunSearch 41 = .ok (.areturn, 1) := by decide +kernel
theorem kw_302 : (Cond.methodLink "TwoEndSearch" 122 ⟨"TwoEndSearch$Search", "begin", "(I)V"⟩ : Cond) ∈ bigW := bigW_of 302 (by decide +kernel) (by decide +kernel)
theorem kw_303 : (Cond.instanceMethod ⟨"TwoEndSearch$Search", "begin", "(I)V"⟩ : Cond) ∈ bigW := bigW_of 303 (by decide +kernel) (by decide +kernel)
theorem kw_304 : (Cond.selects "TwoEndSearch$Search" ⟨"TwoEndSearch$Search", "begin", "(I)V"⟩ ⟨"TwoEndSearch$Search", "begin", "(I)V"⟩ : Cond) ∈ bigW := bigW_of 304 (by decide +kernel) (by decide +kernel)
theorem kw_305 : (Cond.code ⟨"TwoEndSearch$Search", "begin", "(I)V"⟩ prog_5_method_2_code 2 none : Cond) ∈ bigW := bigW_of 305 (by decide +kernel) (by decide +kernel)
def po_X_begunSearch (q : wz_Q) (ax n k : Nat) (sg tu : Nat → Nat → Nat) (od : Nat → Nat) (sa gl : Nat) (F : cx_F) (as9 ab ac ak ag am : Nat → Nat) (b : Nat) (rl rt : Nat → Nat) (fo : Nat → Int32) (M : Nat → Nat → Int32) (rw : Nat → Int32) (bg : Int32) (sx ro : Nat) (ln : Int32) (wz : Int64) (G : List Nat) (st sl : Nat → Int32) (L : Nat → Nat → Int32) (f1 : Nat → Int32) (w1 : Nat → Int64) (e1 : Nat → Int32) (z1 y1 d1 : Nat) (m1 c1 : Int32) (f2 : Nat → Int32) (w2 : Nat → Int64) (e2 : Nat → Int32) (z2 y2 d2 : Nat) (m2 c2 : Int32) (f3 : Nat → Int32) (w3 : Nat → Int64) (e3 : Nat → Int32) (z3 y3 d3 : Nat) (m3 c3 : Int32) : Nat → wz_G → Prop := fun v w => ∃ (ro' : Nat) (G' : List Nat) (st' sl' : Nat → Int32) (L' : Nat → Nat → Int32) (S1 : pz_S) (f1' : Nat → Int32) (w1' : Nat → Int64) (e1' : Nat → Int32) (y1' d1' : Nat) (b1 : Bool) (S2 : pz_S) (f2' : Nat → Int32) (w2' : Nat → Int64) (e2' : Nat → Int32) (y2' d2' : Nat) (b2 : Bool), v = as9 0 ∧ w = [xo_W q ax n (am 0) sa gl (as9 0), se_W q as9 n (am 0) (ag 0) (ab 0) (ac 0) (ak 0) (pz_fact n) rw (nI 1) sa ro' ln wz, bl_W q ab (am 0) (ag 0) 0 (pz_fact n) f1' w1' e1' S1.1.length y1' d1' (nI 0) (bl_b b1), bl_W q ac (am 0) (ag 0) 0 (pz_fact n) f2' w2' e2' S2.1.length y2' d2' (nI 1) (bl_b b2), bl_W q ak (am 0) (ag 0) 6 (pz_fact n) f3 w3 e3 z3 y3 d3 m3 c3, gq_W q ag (am 0) (pz_fact n) (2 ^ b) (32 - b) rl st' sl' G'.length, wz_rows 12 rl (fun i9 => .inl (q.1, pz_fact n, .inl (L' i9))), mv_W q am n k rt fo, wz_rows 12 rt (fun i9 => .inl (q.1, 8, .inl (M i9)))] ∧ gq_ok n sa b k sg tu G' st' sl' L' ∧ G'[ro']? = some sa ∧ (bl_ok (pz_fact n) G' S1 f1' w1' e1' ∧ pz_ball (bl_s n k 0 sg tu od (nI 0)) sa y1' d1' b1 S1 ∧ d1' ≤ y1') ∧ (bl_ok (pz_fact n) G' S2 f2' w2' e2' ∧ pz_ball (bl_s n k 0 sg tu od (nI 1)) sa y2' d2' b2 S2 ∧ d2' ≤ y2')
set_option maxHeartbeats 4000000 in
set_option maxRecDepth 100000 in
/-- the search, begun -/
theorem c_X_begunSearch (l : Launch) (D : va_G) (q : wz_Q) (ax n k : Nat) (sg tu : Nat → Nat → Nat) (od : Nat → Nat) (sa gl : Nat) (F : cx_F) (as9 ab ac ak ag am : Nat → Nat) (b : Nat) (rl rt : Nat → Nat) (fo : Nat → Int32) (M : Nat → Nat → Int32) (rw : Nat → Int32) (bg : Int32) (sx ro : Nat) (ln : Int32) (wz : Int64) (G : List Nat) (st sl : Nat → Int32) (L : Nat → Nat → Int32) (f1 : Nat → Int32) (w1 : Nat → Int64) (e1 : Nat → Int32) (z1 y1 d1 : Nat) (m1 c1 : Int32) (f2 : Nat → Int32) (w2 : Nat → Int64) (e2 : Nat → Int32) (z2 y2 d2 : Nat) (m2 c2 : Int32) (f3 : Nat → Int32) (w3 : Nat → Int64) (e3 : Nat → Int32) (z3 y3 d3 : Nat) (m3 c3 : Int32) (hh : cx_h n b k sg tu od sa gl F fo M rw bg sx ro ln wz G st sl L f1 w1 e1 z1 y1 d1 m1 c1 f2 w2 e2 z2 y2 d2 m2 c2 f3 w3 e3 z3 y3 d3 m3 c3) : wz_Mr l y_X_begunSearch ws_X_begunSearch ({ frames := 3, cells := 0, slots := 0, locals := 69 } : Room) D q ([.ref ax] : List Value) [xo_W q ax n (am 0) sa gl (as9 0), se_W q as9 n (am 0) (ag 0) (ab 0) (ac 0) (ak 0) (pz_fact n) rw bg sx ro ln wz, bl_W q ab (am 0) (ag 0) 0 (pz_fact n) f1 w1 e1 z1 y1 d1 m1 c1, bl_W q ac (am 0) (ag 0) 0 (pz_fact n) f2 w2 e2 z2 y2 d2 m2 c2, bl_W q ak (am 0) (ag 0) 6 (pz_fact n) f3 w3 e3 z3 y3 d3 m3 c3, gq_W q ag (am 0) (pz_fact n) (2 ^ b) (32 - b) rl st sl G.length, wz_rows 12 rl (fun i9 => .inl (q.1, pz_fact n, .inl (L i9))), mv_W q am n k rt fo, wz_rows 12 rt (fun i9 => .inl (q.1, 8, .inl (M i9)))] (po_X_begunSearch q ax n k sg tu od sa gl F as9 ab ac ak ag am b rl rt fo M rw bg sx ro ln wz G st sl L f1 w1 e1 z1 y1 d1 m1 c1 f2 w2 e2 z2 y2 d2 m2 c2 f3 w3 e3 z3 y3 d3 m3 c3) 0 0 := by
  intro sz9
  refine wz_enter (cc := b_X_begunSearch) (maxL := 1) (ret := (some (.object "TwoEndSearch$Search"))) (Qc := fun A => (va_Qr (fun u : Nat × wz_G => (po_X_begunSearch q ax n k sg tu od sa gl F as9 ab ac ak ag am b rl rt fo M rw bg sx ro ln wz G st sl L f1 w1 e1 z1 y1 d1 m1 c1 f2 w2 e2 z2 y2 d2 m2 c2 f3 w3 e3 z3 y3 d3 m3 c3) u.1 u.2) (fun u a t => a = u.1 ∧ wz_At D q A u.2 t) A)) (by decide) (Nat.le_of_ble_eq_true rfl) ?_
  intro p e s m below meth c A ls C hP hD hS hl
  obtain ⟨hx, hb, hr, hml, hlocks, hown, hts, hN, hK, hA, hnm⟩ := C
  have hown : s.vm.findClass "TwoEndSearch" = some m.cls := hown
  have hl : lv_has ls 1 [(0, .ref ax)] := hl
  obtain ⟨⟨hn1, hn, hk, hsa, hgl, hb0, hb30, hM⟩, hmv, hgr, ⟨hw1, hw2, hw3⟩, hbg, hF⟩ := hh
  rcases hbg with hbg | ⟨hbg, rfl, hok, hro, ⟨S1, b1, rfl, hS1, hba1, hdy1, rfl, rfl⟩, ⟨S2, b2, rfl, hS2, hba2, hdy2, rfl, rfl⟩⟩
  · skip
    obtain ⟨g1, ⟨sf, g2, g3⟩, g4, g5, g6⟩ := hgr
    refine lv_aload_n hx hb d_X_begunSearch_0 rfl (lv_at hl 0 rfl) ?_
    refine wz_get (v := .ref (as9 0)) (T := T_X) (N := 5) hx hb hts i_X hown hK hP 0 0 rfl rfl rfl 4 (by decide) (hts _ kw_84) rfl rfl d_X_begunSearch_1 ?_
    refine lv_ifnonnull (tgt := 26) hx hb d_X_begunSearch_4 (by decide) ?_
    refine lv_aload_n hx hb d_X_begunSearch_26 rfl (lv_at hl 0 rfl) ?_
    refine wz_get (v := .ref (as9 0)) (T := T_X) (N := 5) hx hb hts i_X hown hK hP 0 0 rfl rfl rfl 4 (by decide) (hts _ kw_84) rfl rfl d_X_begunSearch_27 ?_
    refine lv_aload_n hx hb d_X_begunSearch_30 rfl (lv_at hl 0 rfl) ?_
    refine wz_get (v := .int (nI sa)) (T := T_X) (N := 5) hx hb hts i_X hown hK hP 0 0 rfl rfl rfl 2 (by decide) (hts _ kw_82) rfl rfl d_X_begunSearch_31 ?_
    have hQ := wz_split (n := 9) (gc := [se_W q as9 n (am 0) (ag 0) (ab 0) (ac 0) (ak 0) (pz_fact n) rw bg sx ro ln wz, bl_W q ab (am 0) (ag 0) 0 (pz_fact n) f1 w1 e1 z1 y1 d1 m1 c1, bl_W q ac (am 0) (ag 0) 0 (pz_fact n) f2 w2 e2 z2 y2 d2 m2 c2, gq_W q ag (am 0) (pz_fact n) (2 ^ b) (32 - b) rl st sl G.length, wz_rows 12 rl (fun i9 => .inl (q.1, pz_fact n, .inl (L i9))), mv_W q am n k rt fo]) (gr := [xo_W q ax n (am 0) sa gl (as9 0), bl_W q ak (am 0) (ag 0) 6 (pz_fact n) f3 w3 e3 z3 y3 d3 m3 c3, wz_rows 12 rt (fun i9 => .inl (q.1, 8, .inl (M i9)))]) [1, 2, 3, 5, 6, 7] [0, 4, 8] rfl (by decide) rfl rfl hP hD
    refine wz_callv (va_runV (As := [.int (nI sa)]) (rest := []) ⟨hx, hb, hml, hown, hts⟩ (c_S_begin0 l D q as9 ab ac ag am n b k (ak 0) rl rt fo sg tu rw bg sx ro ln wz G st sl sf L f1 w1 e1 z1 y1 d1 m1 c1 f2 w2 e2 z2 y2 d2 m2 c2 sa hn hb0 hb30 hM hk g1 g2 g3 g4 g5 g6 hw1 hw2 hbg hsa _) (cwV 1 hts (wz_goodV kw_302 kw_303 kw_304 kw_34 kw_305) rfl rfl rfl (by decide +kernel) ⟨Nat.le_of_ble_eq_true rfl, Nat.le_of_ble_eq_true rfl⟩) (wz_preV (gi := 0) (k := 0) hN hK hQ wz_L_ok rfl rfl rfl) rfl rfl hl.1 rfl (lv_room (Nat.le_of_ble_eq_true rfl)) d_X_begunSearch_34 ⟨Nat.le_of_ble_eq_true rfl, Nat.le_of_ble_eq_true rfl⟩) hQ hS hA (fun gx H locs hp hP hD hS => ?_)
    obtain ⟨G', st', sl', L', c9, ro', f1', w1', e1', f2', w2', e2', rfl, rfl, hok, hro, hS1, hS2⟩ := hp
    obtain ⟨hP, hD⟩ := wz_ord (n := 9) (gs' := [xo_W q ax n (am 0) sa gl (as9 0), se_W q as9 n (am 0) (ag 0) (ab 0) (ac 0) (ak 0) (pz_fact n) rw (nI 1) sa ro' ln wz, bl_W q ab (am 0) (ag 0) 0 (pz_fact n) f1' w1' e1' 1 0 0 (nI 0) (nI 0), bl_W q ac (am 0) (ag 0) 0 (pz_fact n) f2' w2' e2' 1 0 0 (nI 1) (nI 0), bl_W q ak (am 0) (ag 0) 6 (pz_fact n) f3 w3 e3 z3 y3 d3 m3 c3, gq_W q ag (am 0) (pz_fact n) (2 ^ b) (32 - b) rl st' sl' G'.length, wz_rows 12 rl (fun i9 => .inl (q.1, pz_fact n, .inl (L' i9))), mv_W q am n k rt fo, wz_rows 12 rt (fun i9 => .inl (q.1, 8, .inl (M i9)))]) [6, 0, 1, 2, 7, 3, 4, 5, 8] rfl (by decide) rfl hP hD
    refine lv_aload_n hx hb d_X_begunSearch_37 rfl (lv_at hl 0 rfl) ?_
    refine wz_get (v := .ref (as9 0)) (T := T_X) (N := 5) hx hb hts i_X hown hK hP 0 0 rfl rfl rfl 4 (by decide) (hts _ kw_84) rfl rfl d_X_begunSearch_38 ?_
    exact wz_aret hx hb hr ⟨_, rfl⟩ hlocks hK hP hD hS d_X_begunSearch_41 ⟨ro', G', st', sl', L', pz_S0 sa, f1', w1', e1', 0, 0, false, pz_S0 sa, f2', w2', e2', 0, 0, false, rfl, rfl, hok, hro, ⟨hS1, pz_ball_0 _ _, Nat.le_refl _⟩, ⟨hS2, pz_ball_0 _ _, Nat.le_refl _⟩⟩
  · skip
    subst hbg
    refine lv_aload_n hx hb d_X_begunSearch_0 rfl (lv_at hl 0 rfl) ?_
    refine wz_get (v := .ref (as9 0)) (T := T_X) (N := 5) hx hb hts i_X hown hK hP 0 0 rfl rfl rfl 4 (by decide) (hts _ kw_84) rfl rfl d_X_begunSearch_1 ?_
    refine lv_ifnonnull (tgt := 26) hx hb d_X_begunSearch_4 (by decide) ?_
    refine lv_aload_n hx hb d_X_begunSearch_26 rfl (lv_at hl 0 rfl) ?_
    refine wz_get (v := .ref (as9 0)) (T := T_X) (N := 5) hx hb hts i_X hown hK hP 0 0 rfl rfl rfl 4 (by decide) (hts _ kw_84) rfl rfl d_X_begunSearch_27 ?_
    refine lv_aload_n hx hb d_X_begunSearch_30 rfl (lv_at hl 0 rfl) ?_
    refine wz_get (v := .int (nI sx)) (T := T_X) (N := 5) hx hb hts i_X hown hK hP 0 0 rfl rfl rfl 2 (by decide) (hts _ kw_82) rfl rfl d_X_begunSearch_31 ?_
    have hQ := wz_split (n := 9) (gc := [se_W q as9 n (am 0) (ag 0) (ab 0) (ac 0) (ak 0) (pz_fact n) rw (nI 1) sx ro ln wz]) (gr := [xo_W q ax n (am 0) sx gl (as9 0), bl_W q ab (am 0) (ag 0) 0 (pz_fact n) f1 w1 e1 S1.1.length y1 d1 (nI 0) (bl_b b1), bl_W q ac (am 0) (ag 0) 0 (pz_fact n) f2 w2 e2 S2.1.length y2 d2 (nI 1) (bl_b b2), bl_W q ak (am 0) (ag 0) 6 (pz_fact n) f3 w3 e3 z3 y3 d3 m3 c3, gq_W q ag (am 0) (pz_fact n) (2 ^ b) (32 - b) rl st sl G.length, wz_rows 12 rl (fun i9 => .inl (q.1, pz_fact n, .inl (L i9))), mv_W q am n k rt fo, wz_rows 12 rt (fun i9 => .inl (q.1, 8, .inl (M i9)))]) [1] [0, 2, 3, 4, 5, 6, 7, 8] rfl (by decide) rfl rfl hP hD
    refine wz_callv (va_runV (As := [.int (nI sx)]) (rest := []) ⟨hx, hb, hml, hown, hts⟩ (c_S_begin1 l D q as9 n (am 0) (ag 0) (ab 0) (ac 0) (ak 0) (pz_fact n) rw (nI 1) sx ro ln wz (nI sx) rfl _) (cwV 1 hts (wz_goodV kw_302 kw_303 kw_304 kw_34 kw_305) rfl rfl rfl (by decide +kernel) ⟨Nat.le_of_ble_eq_true rfl, Nat.le_of_ble_eq_true rfl⟩) (wz_preV (gi := 0) (k := 0) hN hK hQ wz_L_ok rfl rfl rfl) rfl rfl hl.1 rfl (lv_room (Nat.le_of_ble_eq_true rfl)) d_X_begunSearch_34 ⟨Nat.le_of_ble_eq_true rfl, Nat.le_of_ble_eq_true rfl⟩) hQ hS hA (fun gx H locs hp hP hD hS => ?_)
    have hp : gx = _ := hp
    subst hp
    obtain ⟨hP, hD⟩ := wz_ord (n := 9) (gs' := [xo_W q ax n (am 0) sx gl (as9 0), se_W q as9 n (am 0) (ag 0) (ab 0) (ac 0) (ak 0) (pz_fact n) rw (nI 1) sx ro ln wz, bl_W q ab (am 0) (ag 0) 0 (pz_fact n) f1 w1 e1 S1.1.length y1 d1 (nI 0) (bl_b b1), bl_W q ac (am 0) (ag 0) 0 (pz_fact n) f2 w2 e2 S2.1.length y2 d2 (nI 1) (bl_b b2), bl_W q ak (am 0) (ag 0) 6 (pz_fact n) f3 w3 e3 z3 y3 d3 m3 c3, gq_W q ag (am 0) (pz_fact n) (2 ^ b) (32 - b) rl st sl G.length, wz_rows 12 rl (fun i9 => .inl (q.1, pz_fact n, .inl (L i9))), mv_W q am n k rt fo, wz_rows 12 rt (fun i9 => .inl (q.1, 8, .inl (M i9)))]) [1, 0, 2, 3, 4, 5, 6, 7, 8] rfl (by decide) rfl hP hD
    refine lv_aload_n hx hb d_X_begunSearch_37 rfl (lv_at hl 0 rfl) ?_
    refine wz_get (v := .ref (as9 0)) (T := T_X) (N := 5) hx hb hts i_X hown hK hP 0 0 rfl rfl rfl 4 (by decide) (hts _ kw_84) rfl rfl d_X_begunSearch_38 ?_
    exact wz_aret hx hb hr ⟨_, rfl⟩ hlocks hK hP hD hS d_X_begunSearch_41 ⟨ro, G, st, sl, L, S1, f1, w1, e1, y1, d1, b1, S2, f2, w2, e2, y2, d2, b2, rfl, rfl, hok, hro, ⟨hS1, hba1, hdy1⟩, ⟨hS2, hba2, hdy2⟩⟩
