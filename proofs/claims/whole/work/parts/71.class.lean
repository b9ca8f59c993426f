abbrev cx_F : Type := Option (Nat × (Nat → Nat) × (Nat → Nat) × Int64)
def xo_W (q : wz_Q) (a0 : Nat) (n : Nat) (mr : Nat) (sa : Nat) (gl : Nat) (sr : Nat) : va_W := [(a0, .inr (4, [.int (nI n), .ref mr, .int (nI sa), .int (nI gl), .ref sr]))]
def gr_raw (n b : Nat) (G : List Nat) (st sl : Nat → Int32) : Prop := (∀ i x, G[i]? = some x → st i = nI x) ∧ (∃ sf : Nat → Nat, (∀ j, j < 2 ^ b → sl j = nI (sf j)) ∧ pz_ht (2 ^ b) (gq_hh b) G sf) ∧ G.length ≤ pz_fact n ∧ (∀ x, x ∈ G → x < 2 ^ 24) ∧ G.Nodup
theorem gr_raw_of {n a0 b k : Nat} {sg tu : Nat → Nat → Nat} {G : List Nat} {st sl : Nat → Int32} {L : Nat → Nat → Int32} (hn : n ≤ 8) (h : gq_ok n a0 b k sg tu G st sl L) : gr_raw n b G st sl := ⟨h.2.2.1, h.2.2.2.1, gq_len h, fun x hx => pz_lt31 hn (h.2.1 x hx).1, h.1⟩
/-- a ball ahead, of a measure -/
def bn (n k : Nat) (sg tu : Nat → Nat → Nat) (od : Nat → Nat) (sa mu : Nat) (G : List Nat) (f : Nat → Int32) (w : Nat → Int64) (e : Nat → Int32) (z y d : Nat) (m c : Int32) : Prop := ∃ (S : pz_S) (cb : Bool), z = S.1.length ∧ bl_ok (pz_fact n) G S f w e ∧ pz_ball (bl_s n k 0 sg tu od (nI mu)) sa y d cb S ∧ d ≤ y ∧ c = bl_b cb ∧ m = nI mu
/-- the row that was found -/
def cx_f (F : cx_F) (n : Nat) (ln : Int32) (wz : Int64) (rw : Nat → Int32) : Prop := match F with
  | none => ln = -1 ∧ wz = 0
  | some (len, mv, tm, w9) => ln = nI len ∧ len < pz_fact n ∧ wz = w9 ∧ ∀ i, i < len → mv i < 6 ∧ tm i < 15 ∧ rw i = nI (mv i * 15 + tm i)
def cx_h (n b k : Nat) (sg tu : Nat → Nat → Nat) (od : Nat → Nat) (sa gl : Nat) (F : cx_F) (fo : Nat → Int32) (M : Nat → Nat → Int32) (rw : Nat → Int32) (bg : Int32) (sx ro : Nat) (ln : Int32) (wz : Int64) (G : List Nat) (st sl : Nat → Int32) (L : Nat → Nat → Int32) (f1 : Nat → Int32) (w1 : Nat → Int64) (e1 : Nat → Int32) (z1 y1 d1 : Nat) (m1 c1 : Int32) (f2 : Nat → Int32) (w2 : Nat → Int64) (e2 : Nat → Int32) (z2 y2 d2 : Nat) (m2 c2 : Int32) (f3 : Nat → Int32) (w3 : Nat → Int64) (e3 : Nat → Int32) (z3 y3 d3 : Nat) (m3 c3 : Int32) : Prop :=
  (1 ≤ n ∧ n ≤ 8 ∧ k ≤ 6 ∧ sa < 8 ^ n ∧ gl < 8 ^ n ∧ 0 < b ∧ b ≤ 30 ∧ pz_fact n < 2 ^ b) ∧ mv_ok n k fo M sg tu od ∧ gr_raw n b G st sl ∧ (bl_raw (pz_fact n) f1 e1 z1 ∧ bl_raw (pz_fact n) f2 e2 z2 ∧ bl_raw (pz_fact n) f3 e3 z3) ∧ (bg = nI 0 ∨ (bg = nI 1 ∧ sx = sa ∧ gq_ok n sa b k sg tu G st sl L ∧ G[ro]? = some sa ∧ bn n k sg tu od sa 0 G f1 w1 e1 z1 y1 d1 m1 c1 ∧ bn n k sg tu od sa 1 G f2 w2 e2 z2 y2 d2 m2 c2)) ∧ cx_f F n ln wz rw
/-- the program's world -/
def cx (q : wz_Q) (ax n k : Nat) (sg tu : Nat → Nat → Nat) (od : Nat → Nat) (sa gl : Nat) (F : cx_F) (WW : wz_G) : Prop := ∃ (as9 ab ac ak ag am : Nat → Nat) (b : Nat) (rl rt : Nat → Nat) (fo : Nat → Int32) (M : Nat → Nat → Int32) (rw : Nat → Int32) (bg : Int32) (sx ro : Nat) (ln : Int32) (wz : Int64) (G : List Nat) (st sl : Nat → Int32) (L : Nat → Nat → Int32) (f1 : Nat → Int32) (w1 : Nat → Int64) (e1 : Nat → Int32) (z1 y1 d1 : Nat) (m1 c1 : Int32) (f2 : Nat → Int32) (w2 : Nat → Int64) (e2 : Nat → Int32) (z2 y2 d2 : Nat) (m2 c2 : Int32) (f3 : Nat → Int32) (w3 : Nat → Int64) (e3 : Nat → Int32) (z3 y3 d3 : Nat) (m3 c3 : Int32), WW = [xo_W q ax n (am 0) sa gl (as9 0), se_W q as9 n (am 0) (ag 0) (ab 0) (ac 0) (ak 0) (pz_fact n) rw bg sx ro ln wz, bl_W q ab (am 0) (ag 0) 0 (pz_fact n) f1 w1 e1 z1 y1 d1 m1 c1, bl_W q ac (am 0) (ag 0) 0 (pz_fact n) f2 w2 e2 z2 y2 d2 m2 c2, bl_W q ak (am 0) (ag 0) 6 (pz_fact n) f3 w3 e3 z3 y3 d3 m3 c3, gq_W q ag (am 0) (pz_fact n) (2 ^ b) (32 - b) rl st sl G.length, wz_rows 12 rl (fun i9 => .inl (q.1, pz_fact n, .inl (L i9))), mv_W q am n k rt fo, wz_rows 12 rt (fun i9 => .inl (q.1, 8, .inl (M i9)))] ∧ cx_h n b k sg tu od sa gl F fo M rw bg sx ro ln wz G st sl L f1 w1 e1 z1 y1 d1 m1 c1 f2 w2 e2 z2 y2 d2 m2 c2 f3 w3 e3 z3 y3 d3 m3 c3
theorem cx_in {q : wz_Q} {ax n k : Nat} {sg tu : Nat → Nat → Nat} {od : Nat → Nat} {sa gl : Nat} {F : cx_F} {as9 ab ac ak ag am : Nat → Nat} {b : Nat} {rl rt : Nat → Nat} {fo : Nat → Int32} {M : Nat → Nat → Int32} {rw : Nat → Int32} {bg : Int32} {sx ro : Nat} {ln : Int32} {wz : Int64} {G : List Nat} {st sl : Nat → Int32} {L : Nat → Nat → Int32} {f1 : Nat → Int32} {w1 : Nat → Int64} {e1 : Nat → Int32} {z1 y1 d1 : Nat} {m1 c1 : Int32} {f2 : Nat → Int32} {w2 : Nat → Int64} {e2 : Nat → Int32} {z2 y2 d2 : Nat} {m2 c2 : Int32} {f3 : Nat → Int32} {w3 : Nat → Int64} {e3 : Nat → Int32} {z3 y3 d3 : Nat} {m3 c3 : Int32} (h : cx_h n b k sg tu od sa gl F fo M rw bg sx ro ln wz G st sl L f1 w1 e1 z1 y1 d1 m1 c1 f2 w2 e2 z2 y2 d2 m2 c2 f3 w3 e3 z3 y3 d3 m3 c3) : cx q ax n k sg tu od sa gl F [xo_W q ax n (am 0) sa gl (as9 0), se_W q as9 n (am 0) (ag 0) (ab 0) (ac 0) (ak 0) (pz_fact n) rw bg sx ro ln wz, bl_W q ab (am 0) (ag 0) 0 (pz_fact n) f1 w1 e1 z1 y1 d1 m1 c1, bl_W q ac (am 0) (ag 0) 0 (pz_fact n) f2 w2 e2 z2 y2 d2 m2 c2, bl_W q ak (am 0) (ag 0) 6 (pz_fact n) f3 w3 e3 z3 y3 d3 m3 c3, gq_W q ag (am 0) (pz_fact n) (2 ^ b) (32 - b) rl st sl G.length, wz_rows 12 rl (fun i9 => .inl (q.1, pz_fact n, .inl (L i9))), mv_W q am n k rt fo, wz_rows 12 rt (fun i9 => .inl (q.1, 8, .inl (M i9)))] := ⟨as9, ab, ac, ak, ag, am, b, rl, rt, fo, M, rw, bg, sx, ro, ln, wz, G, st, sl, L, f1, w1, e1, z1, y1, d1, m1, c1, f2, w2, e2, z2, y2, d2, m2, c2, f3, w3, e3, z3, y3, d3, m3, c3, rfl, h⟩
theorem d_X_forgetAll_0 : decode b_X_forgetAll 0 = .ok (.aload_n 0, 1) := by decide +kernel
theorem d_X_forgetAll_1 : decode b_X_forgetAll 1 = .ok (.getfield 46, 3) := by decide +kernel
theorem d_X_forgetAll_4 : decode b_X_forgetAll 4 = .ok (.iconst 0, 1) := by decide +kernel
theorem d_X_forgetAll_5 : decode b_X_forgetAll 5 = .ok (.putfield 125, 3) := by decide +kernel
theorem d_X_forgetAll_8 : decode b_X_forgetAll 8 = .ok (.aload_n 0, 1) := by decide +kernel
theorem d_X_forgetAll_9 : decode b_X_forgetAll 9 = .ok (.getfield 46, 3) := by decide +kernel
theorem d_X_forgetAll_12 : decode b_X_forgetAll 12 = .ok (.invokevirtual 129, 3) := by decide +kernel
theorem d_X_forgetAll_15 : decode b_X_forgetAll 15 = .ok (.return_, 1) := by decide +kernel
theorem d_X_forgetFound_0 : decode b_X_forgetFound 0 = .ok (.aload_n 0, 1) := by decide +kernel
theorem d_X_forgetFound_1 : decode b_X_forgetFound 1 = .ok (.getfield 46, 3) := by decide +kernel
theorem d_X_forgetFound_4 : decode b_X_forgetFound 4 = .ok (.invokevirtual 129, 3) := by decide +kernel
theorem d_X_forgetFound_7 : decode b_X_forgetFound 7 = .ok (.return_, 1) := by decide +kernel
theorem d_X_labelled_0 : decode b_X_labelled 0 = .ok (.iconst 3, 1) := by decide +kernel
theorem d_X_labelled_1 : decode b_X_labelled 1 = .ok (.iload_n 1, 1) := by decide +kernel
theorem d_X_labelled_2 : decode b_X_labelled 2 = .ok (.imul, 1) := by decide +kernel
theorem d_X_labelled_3 : decode b_X_labelled 3 = .ok (.istore_n 3, 1) := by decide +kernel
theorem d_X_labelled_4 : decode b_X_labelled 4 = .ok (.iload_n 0, 1) := by decide +kernel
theorem d_X_labelled_5 : decode b_X_labelled 5 = .ok (.bipush 7, 2) := by decide +kernel
theorem d_X_labelled_7 : decode b_X_labelled 7 = .ok (.iload_n 3, 1) := by decide +kernel
theorem d_X_labelled_8 : decode b_X_labelled 8 = .ok (.ishl, 1) := by decide +kernel
theorem d_X_labelled_9 : decode b_X_labelled 9 = .ok (.iconst (-1), 1) := by decide +kernel
theorem d_X_labelled_10 : decode b_X_labelled 10 = .ok (.ixor, 1) := by decide +kernel
theorem d_X_labelled_11 : decode b_X_labelled 11 = .ok (.iand, 1) := by decide +kernel
theorem d_X_labelled_12 : decode b_X_labelled 12 = .ok (.iload_n 2, 1) := by decide +kernel
theorem d_X_labelled_13 : decode b_X_labelled 13 = .ok (.iload_n 3, 1) := by decide +kernel
theorem d_X_labelled_14 : decode b_X_labelled 14 = .ok (.ishl, 1) := by decide +kernel
theorem d_X_labelled_15 : decode b_X_labelled 15 = .ok (.ior, 1) := by decide +kernel
theorem d_X_labelled_16 : decode b_X_labelled 16 = .ok (.ireturn, 1) := by decide +kernel
theorem d_X_move_0 : decode b_X_move 0 = .ok (.aload_n 0, 1) := by decide +kernel
theorem d_X_move_1 : decode b_X_move 1 = .ok (.getfield 27, 3) := by decide +kernel
theorem d_X_move_4 : decode b_X_move 4 = .ok (.invokevirtual 50, 3) := by decide +kernel
theorem d_X_move_7 : decode b_X_move 7 = .ok (.istore_n 1, 1) := by decide +kernel
theorem d_X_move_8 : decode b_X_move 8 = .ok (.iload_n 1, 1) := by decide +kernel
theorem d_X_move_9 : decode b_X_move 9 = .ok (.iconst (-1), 1) := by decide +kernel
theorem d_X_move_10 : decode b_X_move 10 = .ok (.if_icmp .eq 7, 3) := by decide +kernel
theorem d_X_move_13 : decode b_X_move 13 = .ok (.aload_n 0, 1) := by decide +kernel
theorem d_X_move_14 : decode b_X_move 14 = .ok (.invokevirtual 54, 3) := by decide +kernel
theorem d_X_move_17 : decode b_X_move 17 = .ok (.iload_n 1, 1) := by decide +kernel
theorem d_X_move_18 : decode b_X_move 18 = .ok (.ireturn, 1) := by decide +kernel
theorem d_X_cycle_0 : decode b_X_cycle 0 = .ok (.aload_n 0, 1) := by decide +kernel
theorem d_X_cycle_1 : decode b_X_cycle 1 = .ok (.getfield 27, 3) := by decide +kernel
theorem d_X_cycle_4 : decode b_X_cycle 4 = .ok (.iload_n 1, 1) := by decide +kernel
theorem d_X_cycle_5 : decode b_X_cycle 5 = .ok (.iload_n 2, 1) := by decide +kernel
theorem d_X_cycle_6 : decode b_X_cycle 6 = .ok (.iload_n 3, 1) := by decide +kernel
theorem d_X_cycle_7 : decode b_X_cycle 7 = .ok (.invokevirtual 57, 3) := by decide +kernel
theorem d_X_cycle_10 : decode b_X_cycle 10 = .ok (.istore 4, 2) := by decide +kernel
theorem d_X_cycle_12 : decode b_X_cycle 12 = .ok (.iload 4, 2) := by decide +kernel
theorem d_X_cycle_14 : decode b_X_cycle 14 = .ok (.ifCond .eq 7, 3) := by decide +kernel
theorem d_X_cycle_17 : decode b_X_cycle 17 = .ok (.aload_n 0, 1) := by decide +kernel
theorem d_X_cycle_18 : decode b_X_cycle 18 = .ok (.invokevirtual 54, 3) := by decide +kernel
theorem d_X_cycle_21 : decode b_X_cycle 21 = .ok (.iload 4, 2) := by decide +kernel
theorem d_X_cycle_23 : decode b_X_cycle 23 = .ok (.ireturn, 1) := by decide +kernel
theorem d_X_order_0 : decode b_X_order 0 = .ok (.aload_n 0, 1) := by decide +kernel
theorem d_X_order_1 : decode b_X_order 1 = .ok (.getfield 27, 3) := by decide +kernel
theorem d_X_order_4 : decode b_X_order 4 = .ok (.iload_n 1, 1) := by decide +kernel
theorem d_X_order_5 : decode b_X_order 5 = .ok (.invokevirtual 61, 3) := by decide +kernel
theorem d_X_order_8 : decode b_X_order 8 = .ok (.ifCond .eq 14, 3) := by decide +kernel
theorem d_X_order_11 : decode b_X_order 11 = .ok (.aload_n 0, 1) := by decide +kernel
theorem d_X_order_12 : decode b_X_order 12 = .ok (.getfield 27, 3) := by decide +kernel
theorem d_X_order_15 : decode b_X_order 15 = .ok (.iload_n 1, 1) := by decide +kernel
theorem d_X_order_16 : decode b_X_order 16 = .ok (.invokevirtual 65, 3) := by decide +kernel
theorem d_X_order_19 : decode b_X_order 19 = .ok (.goto 4, 3) := by decide +kernel
theorem d_X_order_22 : decode b_X_order 22 = .ok (.iconst 0, 1) := by decide +kernel
theorem d_X_order_23 : decode b_X_order 23 = .ok (.ireturn, 1) := by decide +kernel
theorem d_X_clear_0 : decode b_X_clear 0 = .ok (.aload_n 0, 1) := by decide +kernel
theorem d_X_clear_1 : decode b_X_clear 1 = .ok (.getfield 27, 3) := by decide +kernel
theorem d_X_clear_4 : decode b_X_clear 4 = .ok (.invokevirtual 119, 3) := by decide +kernel
theorem d_X_clear_7 : decode b_X_clear 7 = .ok (.aload_n 0, 1) := by decide +kernel
theorem d_X_clear_8 : decode b_X_clear 8 = .ok (.aload_n 0, 1) := by decide +kernel
theorem d_X_clear_9 : decode b_X_clear 9 = .ok (.getfield 18, 3) := by decide +kernel
theorem d_X_clear_12 : decode b_X_clear 12 = .ok (.invokestatic 31, 3) := by decide +kernel
theorem d_X_clear_15 : decode b_X_clear 15 = .ok (.putfield 35, 3) := by decide +kernel
theorem d_X_clear_18 : decode b_X_clear 18 = .ok (.aload_n 0, 1) := by decide +kernel
theorem d_X_clear_19 : decode b_X_clear 19 = .ok (.aload_n 0, 1) := by decide +kernel
theorem d_X_clear_20 : decode b_X_clear 20 = .ok (.getfield 35, 3) := by decide +kernel
theorem d_X_clear_23 : decode b_X_clear 23 = .ok (.putfield 38, 3) := by decide +kernel
theorem d_X_clear_26 : decode b_X_clear 26 = .ok (.aload_n 0, 1) := by decide +kernel
theorem d_X_clear_27 : decode b_X_clear 27 = .ok (.invokevirtual 54, 3) := by decide +kernel
theorem d_X_clear_30 : decode b_X_clear 30 = .ok (.return_, 1) := by decide +kernel
theorem d_X_step_0 : decode b_X_step 0 = .ok (.iload_n 1, 1) := by decide +kernel
theorem d_X_step_1 : decode b_X_step 1 = .ok (.ifCond .lt 14, 3) := by decide +kernel
theorem d_X_step_4 : decode b_X_step 4 = .ok (.iload_n 1, 1) := by decide +kernel
theorem d_X_step_5 : decode b_X_step 5 = .ok (.aload_n 0, 1) := by decide +kernel
theorem d_X_step_6 : decode b_X_step 6 = .ok (.getfield 46, 3) := by decide +kernel
theorem d_X_step_9 : decode b_X_step 9 = .ok (.getfield 85, 3) := by decide +kernel
theorem d_X_step_12 : decode b_X_step 12 = .ok (.if_icmp .lt 5, 3) := by decide +kernel
theorem d_X_step_15 : decode b_X_step 15 = .ok (.iconst (-1), 1) := by decide +kernel
theorem d_X_step_16 : decode b_X_step 16 = .ok (.ireturn, 1) := by decide +kernel
theorem d_X_step_17 : decode b_X_step 17 = .ok (.aload_n 0, 1) := by decide +kernel
theorem d_X_step_18 : decode b_X_step 18 = .ok (.getfield 46, 3) := by decide +kernel
theorem d_X_step_21 : decode b_X_step 21 = .ok (.getfield 88, 3) := by decide +kernel
theorem d_X_step_24 : decode b_X_step 24 = .ok (.iload_n 1, 1) := by decide +kernel
theorem d_X_step_25 : decode b_X_step 25 = .ok (.iaload, 1) := by decide +kernel
theorem d_X_step_26 : decode b_X_step 26 = .ok (.istore_n 3, 1) := by decide +kernel
theorem d_X_step_27 : decode b_X_step 27 = .ok (.iload_n 2, 1) := by decide +kernel
theorem d_X_step_28 : decode b_X_step 28 = .ok (.ifCond .eq 10, 3) := by decide +kernel
theorem d_X_step_31 : decode b_X_step 31 = .ok (.iload_n 3, 1) := by decide +kernel
theorem d_X_step_32 : decode b_X_step 32 = .ok (.bipush 15, 2) := by decide +kernel
theorem d_X_step_34 : decode b_X_step 34 = .ok (.irem, 1) := by decide +kernel
theorem d_X_step_35 : decode b_X_step 35 = .ok (.goto 7, 3) := by decide +kernel
theorem d_X_step_38 : decode b_X_step 38 = .ok (.iload_n 3, 1) := by decide +kernel
theorem d_X_step_39 : decode b_X_step 39 = .ok (.bipush 15, 2) := by decide +kernel
theorem d_X_step_41 : decode b_X_step 41 = .ok (.idiv, 1) := by decide +kernel
theorem d_X_step_42 : decode b_X_step 42 = .ok (.ireturn, 1) := by decide +kernel
theorem d_X_ways_0 : decode b_X_ways 0 = .ok (.aload_n 0, 1) := by decide +kernel
theorem d_X_ways_1 : decode b_X_ways 1 = .ok (.getfield 46, 3) := by decide +kernel
theorem d_X_ways_4 : decode b_X_ways 4 = .ok (.getfield 92, 3) := by decide +kernel
theorem d_X_ways_7 : decode b_X_ways 7 = .ok (.lreturn, 1) := by decide +kernel
theorem kw_1 : (Cond.selects "TwoEndSearch" ⟨"TwoEndSearch", "forgetAll", "()V"⟩ ⟨"TwoEndSearch", "forgetAll", "()V"⟩ : Cond) ∈ bigW := bigW_of 1 (by decide +kernel) (by decide +kernel)
theorem kw_77 : (Cond.methodLink "TwoEndSearch" 31 ⟨"TwoEndSearch", "firstState", "(I)I"⟩ : Cond) ∈ bigW := bigW_of 77 (by decide +kernel) (by decide +kernel)
theorem kw_210 : (Cond.fieldLink "TwoEndSearch" 18 "TwoEndSearch" "places" "I" : Cond) ∈ bigW := bigW_of 210 (by decide +kernel) (by decide +kernel)
theorem kw_211 : (Cond.fieldLink "TwoEndSearch" 27 "TwoEndSearch" "moves" "LTwoEndSearch$Moves;" : Cond) ∈ bigW := bigW_of 211 (by decide +kernel) (by decide +kernel)
theorem kw_212 : (Cond.fieldLink "TwoEndSearch" 35 "TwoEndSearch" "start" "I" : Cond) ∈ bigW := bigW_of 212 (by decide +kernel) (by decide +kernel)
theorem kw_213 : (Cond.fieldLink "TwoEndSearch" 38 "TwoEndSearch" "goal" "I" : Cond) ∈ bigW := bigW_of 213 (by decide +kernel) (by decide +kernel)
theorem kw_214 : (Cond.fieldLink "TwoEndSearch" 46 "TwoEndSearch" "search" "LTwoEndSearch$Search;" : Cond) ∈ bigW := bigW_of 214 (by decide +kernel) (by decide +kernel)
theorem kw_230 : (Cond.methodLink "TwoEndSearch" 50 ⟨"TwoEndSearch$Moves", "add", "()I"⟩ : Cond) ∈ bigW := bigW_of 230 (by decide +kernel) (by decide +kernel)
theorem kw_231 : (Cond.instanceMethod ⟨"TwoEndSearch$Moves", "add", "()I"⟩ : Cond) ∈ bigW := bigW_of 231 (by decide +kernel) (by decide +kernel)
theorem kw_232 : (Cond.selects "TwoEndSearch$Moves" ⟨"TwoEndSearch$Moves", "add", "()I"⟩ ⟨"TwoEndSearch$Moves", "add", "()I"⟩ : Cond) ∈ bigW := bigW_of 232 (by decide +kernel) (by decide +kernel)
theorem kw_233 : (Cond.code ⟨"TwoEndSearch$Moves", "add", "()I"⟩ prog_4_method_3_code 3 (some .int) : Cond) ∈ bigW := bigW_of 233 (by decide +kernel) (by decide +kernel)
theorem kw_238 : (Cond.methodLink "TwoEndSearch" 54 ⟨"TwoEndSearch", "forgetAll", "()V"⟩ : Cond) ∈ bigW := bigW_of 238 (by decide +kernel) (by decide +kernel)
theorem kw_240 : (Cond.instanceMethod ⟨"TwoEndSearch", "forgetAll", "()V"⟩ : Cond) ∈ bigW := bigW_of 240 (by decide +kernel) (by decide +kernel)
theorem kw_241 : (Cond.code ⟨"TwoEndSearch", "forgetAll", "()V"⟩ prog_1_method_14_code 1 none : Cond) ∈ bigW := bigW_of 241 (by decide +kernel) (by decide +kernel)
theorem kw_242 : (Cond.methodLink "TwoEndSearch" 129 ⟨"TwoEndSearch$Search", "forgetRow", "()V"⟩ : Cond) ∈ bigW := bigW_of 242 (by decide +kernel) (by decide +kernel)
theorem kw_250 : (Cond.methodLink "TwoEndSearch" 57 ⟨"TwoEndSearch$Moves", "lengthen", "(III)Z"⟩ : Cond) ∈ bigW := bigW_of 250 (by decide +kernel) (by decide +kernel)
theorem kw_251 : (Cond.instanceMethod ⟨"TwoEndSearch$Moves", "lengthen", "(III)Z"⟩ : Cond) ∈ bigW := bigW_of 251 (by decide +kernel) (by decide +kernel)
theorem kw_252 : (Cond.selects "TwoEndSearch$Moves" ⟨"TwoEndSearch$Moves", "lengthen", "(III)Z"⟩ ⟨"TwoEndSearch$Moves", "lengthen", "(III)Z"⟩ : Cond) ∈ bigW := bigW_of 252 (by decide +kernel) (by decide +kernel)
theorem kw_253 : (Cond.code ⟨"TwoEndSearch$Moves", "lengthen", "(III)Z"⟩ prog_4_method_4_code 5 (some .boolean) : Cond) ∈ bigW := bigW_of 253 (by decide +kernel) (by decide +kernel)
theorem kw_275 : (Cond.methodLink "TwoEndSearch" 61 ⟨"TwoEndSearch$Moves", "has", "(I)Z"⟩ : Cond) ∈ bigW := bigW_of 275 (by decide +kernel) (by decide +kernel)
theorem kw_276 : (Cond.methodLink "TwoEndSearch" 65 ⟨"TwoEndSearch$Moves", "orderOf", "(I)I"⟩ : Cond) ∈ bigW := bigW_of 276 (by decide +kernel) (by decide +kernel)
theorem kw_277 : (Cond.instanceMethod ⟨"TwoEndSearch$Moves", "orderOf", "(I)I"⟩ : Cond) ∈ bigW := bigW_of 277 (by decide +kernel) (by decide +kernel)
theorem kw_278 : (Cond.selects "TwoEndSearch$Moves" ⟨"TwoEndSearch$Moves", "orderOf", "(I)I"⟩ ⟨"TwoEndSearch$Moves", "orderOf", "(I)I"⟩ : Cond) ∈ bigW := bigW_of 278 (by decide +kernel) (by decide +kernel)
theorem kw_279 : (Cond.code ⟨"TwoEndSearch$Moves", "orderOf", "(I)I"⟩ prog_4_method_5_code 2 (some .int) : Cond) ∈ bigW := bigW_of 279 (by decide +kernel) (by decide +kernel)
theorem kw_442 : (Cond.methodLink "TwoEndSearch" 119 ⟨"TwoEndSearch$Moves", "dropAll", "()V"⟩ : Cond) ∈ bigW := bigW_of 442 (by decide +kernel) (by decide +kernel)
theorem kw_443 : (Cond.instanceMethod ⟨"TwoEndSearch$Moves", "dropAll", "()V"⟩ : Cond) ∈ bigW := bigW_of 443 (by decide +kernel) (by decide +kernel)
theorem kw_444 : (Cond.selects "TwoEndSearch$Moves" ⟨"TwoEndSearch$Moves", "dropAll", "()V"⟩ ⟨"TwoEndSearch$Moves", "dropAll", "()V"⟩ : Cond) ∈ bigW := bigW_of 444 (by decide +kernel) (by decide +kernel)
theorem kw_445 : (Cond.code ⟨"TwoEndSearch$Moves", "dropAll", "()V"⟩ prog_4_method_8_code 1 none : Cond) ∈ bigW := bigW_of 445 (by decide +kernel) (by decide +kernel)
def po_X_forgetAll (q : wz_Q) (ax : Nat) (as9 : Nat → Nat) (n mr gr r1 r2 r3 cap sa gl : Nat) (rw : Nat → Int32) (bg : Int32) (sx ro : Nat) (ln : Int32) (wz : Int64) : wz_G → Prop := fun w => w = [xo_W q ax n mr sa gl (as9 0), se_W q as9 n mr gr r1 r2 r3 cap rw (nI 0) sx ro (-1) 0]
set_option maxHeartbeats 4000000 in
set_option maxRecDepth 100000 in
/-- X_forgetAll -/
theorem c_X_forgetAll (l : Launch) (D : va_G) (q : wz_Q) (ax : Nat) (as9 : Nat → Nat) (n mr gr r1 r2 r3 cap sa gl : Nat) (rw : Nat → Int32) (bg : Int32) (sx ro : Nat) (ln : Int32) (wz : Int64)  : wz_Mv l y_X_forgetAll ws_X_forgetAll ({ frames := 1, cells := 0, slots := 0, locals := 20 } : Room) D q ([.ref ax] : List Value) [xo_W q ax n mr sa gl (as9 0), se_W q as9 n mr gr r1 r2 r3 cap rw bg sx ro ln wz] (po_X_forgetAll q ax as9 n mr gr r1 r2 r3 cap sa gl rw bg sx ro ln wz) 0 0 := by
  intro sz9
  refine wz_enter (cc := b_X_forgetAll) (maxL := 1) (ret := none) (Qc := fun A => (va_Qv (po_X_forgetAll q ax as9 n mr gr r1 r2 r3 cap sa gl rw bg sx ro ln wz) (wz_At D q A) A)) (by decide) (Nat.le_of_ble_eq_true rfl) ?_
  intro p e s m below meth c A ls C hP hD hS hl
  obtain ⟨hx, hb, hr, hml, hlocks, hown, hts, hN, hK, hA, hnm⟩ := C
  have hown : s.vm.findClass "TwoEndSearch" = some m.cls := hown
  have hl : lv_has ls 1 [(0, .ref ax)] := hl
  refine lv_aload_n hx hb d_X_forgetAll_0 rfl (lv_at hl 0 rfl) ?_
  refine wz_get (v := .ref (as9 0)) (T := T_X) (N := 5) hx hb hts i_X hown hK hP 0 0 rfl rfl rfl 4 (by decide) (hts _ kw_214) rfl rfl d_X_forgetAll_1 ?_
  refine lv_iconst (v := nI 0) hx hb d_X_forgetAll_4 (by decide) ?_
  refine wz_putN (gs' := [xo_W q ax n mr sa gl (as9 0), se_W q as9 n mr gr r1 r2 r3 cap rw (nI 0) sx ro ln wz]) (v := .int (nI 0)) (T := T_S) (N := 12) hx hb hts i_S t_S t_S_ok n_S hown hK hP hD hS 1 0 rfl rfl rfl 7 (by decide) (hN.1 _ (List.mem_of_getElem? (i := 15) rfl)) rfl rfl (ty := t_S 7) (by decide +kernel) rfl rfl (Nat.le_of_ble_eq_true rfl) d_X_forgetAll_5 rfl (fun H locs hP hD hS => ?_)
  refine lv_aload_n hx hb d_X_forgetAll_8 rfl (lv_at hl 0 rfl) ?_
  refine wz_get (v := .ref (as9 0)) (T := T_X) (N := 5) hx hb hts i_X hown hK hP 0 0 rfl rfl rfl 4 (by decide) (hts _ kw_214) rfl rfl d_X_forgetAll_9 ?_
  have hQ := wz_split (n := 2) (gc := [se_W q as9 n mr gr r1 r2 r3 cap rw (nI 0) sx ro ln wz]) (gr := [xo_W q ax n mr sa gl (as9 0)]) [1] [0] rfl (by decide) rfl rfl hP hD
  refine wz_callv (va_runV (As := []) (rest := []) ⟨hx, hb, hml, hown, hts⟩ (c_S_forgetRow l D q as9 n mr gr r1 r2 r3 cap rw (nI 0) sx ro ln wz _) (cwV 0 hts (wz_goodV kw_242 kw_243 kw_244 kw_33 kw_245) rfl rfl rfl (by decide +kernel) ⟨Nat.le_of_ble_eq_true rfl, Nat.le_of_ble_eq_true rfl⟩) (wz_preV (gi := 0) (k := 0) hN hK hQ wz_L_ok rfl rfl rfl) rfl rfl hl.1 rfl (lv_room (Nat.le_of_ble_eq_true rfl)) d_X_forgetAll_12 ⟨Nat.le_of_ble_eq_true rfl, Nat.le_of_ble_eq_true rfl⟩) hQ hS hA (fun gx H locs hp hP hD hS => ?_)
  have hp : gx = _ := hp
  subst hp
  obtain ⟨hP, hD⟩ := wz_ord (n := 2) (gs' := [xo_W q ax n mr sa gl (as9 0), se_W q as9 n mr gr r1 r2 r3 cap rw (nI 0) sx ro (-1) 0]) [1, 0] rfl (by decide) rfl hP hD
  exact wz_vret hx hb hr hlocks hK hP hD hS d_X_forgetAll_15 rfl
def po_X_forgetFound (q : wz_Q) (ax : Nat) (as9 : Nat → Nat) (n mr gr r1 r2 r3 cap sa gl : Nat) (rw : Nat → Int32) (bg : Int32) (sx ro : Nat) (ln : Int32) (wz : Int64) : wz_G → Prop := fun w => w = [xo_W q ax n mr sa gl (as9 0), se_W q as9 n mr gr r1 r2 r3 cap rw bg sx ro (-1) 0]
set_option maxHeartbeats 4000000 in
set_option maxRecDepth 100000 in
/-- X_forgetFound -/
theorem c_X_forgetFound (l : Launch) (D : va_G) (q : wz_Q) (ax : Nat) (as9 : Nat → Nat) (n mr gr r1 r2 r3 cap sa gl : Nat) (rw : Nat → Int32) (bg : Int32) (sx ro : Nat) (ln : Int32) (wz : Int64)  : wz_Mv l y_X_forgetFound ws_X_forgetFound ({ frames := 1, cells := 0, slots := 0, locals := 20 } : Room) D q ([.ref ax] : List Value) [xo_W q ax n mr sa gl (as9 0), se_W q as9 n mr gr r1 r2 r3 cap rw bg sx ro ln wz] (po_X_forgetFound q ax as9 n mr gr r1 r2 r3 cap sa gl rw bg sx ro ln wz) 0 0 := by
  intro sz9
  refine wz_enter (cc := b_X_forgetFound) (maxL := 1) (ret := none) (Qc := fun A => (va_Qv (po_X_forgetFound q ax as9 n mr gr r1 r2 r3 cap sa gl rw bg sx ro ln wz) (wz_At D q A) A)) (by decide) (Nat.le_of_ble_eq_true rfl) ?_
  intro p e s m below meth c A ls C hP hD hS hl
  obtain ⟨hx, hb, hr, hml, hlocks, hown, hts, hN, hK, hA, hnm⟩ := C
  have hown : s.vm.findClass "TwoEndSearch" = some m.cls := hown
  have hl : lv_has ls 1 [(0, .ref ax)] := hl
  refine lv_aload_n hx hb d_X_forgetFound_0 rfl (lv_at hl 0 rfl) ?_
  refine wz_get (v := .ref (as9 0)) (T := T_X) (N := 5) hx hb hts i_X hown hK hP 0 0 rfl rfl rfl 4 (by decide) (hts _ kw_214) rfl rfl d_X_forgetFound_1 ?_
  have hQ := wz_split (n := 2) (gc := [se_W q as9 n mr gr r1 r2 r3 cap rw bg sx ro ln wz]) (gr := [xo_W q ax n mr sa gl (as9 0)]) [1] [0] rfl (by decide) rfl rfl hP hD
  refine wz_callv (va_runV (As := []) (rest := []) ⟨hx, hb, hml, hown, hts⟩ (c_S_forgetRow l D q as9 n mr gr r1 r2 r3 cap rw bg sx ro ln wz _) (cwV 0 hts (wz_goodV kw_242 kw_243 kw_244 kw_33 kw_245) rfl rfl rfl (by decide +kernel) ⟨Nat.le_of_ble_eq_true rfl, Nat.le_of_ble_eq_true rfl⟩) (wz_preV (gi := 0) (k := 0) hN hK hQ wz_L_ok rfl rfl rfl) rfl rfl hl.1 rfl (lv_room (Nat.le_of_ble_eq_true rfl)) d_X_forgetFound_4 ⟨Nat.le_of_ble_eq_true rfl, Nat.le_of_ble_eq_true rfl⟩) hQ hS hA (fun gx H locs hp hP hD hS => ?_)
  have hp : gx = _ := hp
  subst hp
  obtain ⟨hP, hD⟩ := wz_ord (n := 2) (gs' := [xo_W q ax n mr sa gl (as9 0), se_W q as9 n mr gr r1 r2 r3 cap rw bg sx ro (-1) 0]) [1, 0] rfl (by decide) rfl hP hD
  exact wz_vret hx hb hr hlocks hK hP hD hS d_X_forgetFound_7 rfl
def po_X_labelled (q : wz_Q) (n cd p1 j : Nat) : Int32 → wz_G → Prop := fun v w => w = [] ∧ v = nI (pz_lab cd p1 j)
set_option maxHeartbeats 4000000 in
set_option maxRecDepth 100000 in
/-- another label at a place -/
theorem c_X_labelled (l : Launch) (D : va_G) (q : wz_Q) (n cd p1 j : Nat) (hn : n ≤ 8) (hcd : cd < 8 ^ n) (hp1 : p1 < n) (hj : j < 8) : wz_Mi l y_X_labelled ws_X_labelled ({ frames := 0, cells := 0, slots := 0, locals := 0 } : Room) D q ([.int (nI cd), .int (nI p1), .int (nI j)] : List Value) [] (po_X_labelled q n cd p1 j) 0 0 := by
  intro sz9
  refine wz_enter (cc := b_X_labelled) (maxL := 4) (ret := (some .int)) (Qc := fun A => (va_Qi (po_X_labelled q n cd p1 j) (wz_At D q A) A)) (by decide) (Nat.le_of_ble_eq_true rfl) ?_
  intro p e s m below meth c A ls C hP hD hS hl
  obtain ⟨hx, hb, hr, hml, hlocks, hown, hts, hN, hK, hA, hnm⟩ := C
  have hown : s.vm.findClass "TwoEndSearch" = some m.cls := hown
  have hl : lv_has ls 4 [(0, .int (nI cd)), (1, .int (nI p1)), (2, .int (nI j))] := hl
  refine lv_iconst (v := nI 3) hx hb d_X_labelled_0 (by decide) ?_
  refine lv_iload_n hx hb d_X_labelled_1 rfl (lv_at hl 1 rfl) ?_
  refine lv_imul hx hb d_X_labelled_2 ?_
  refine wz_topi (y := nI (3 * p1)) (pk_mul 3 p1) ?_
  refine lv_istore_n (lv' := [(3, .int (nI (3 * p1))), (0, .int (nI cd)), (1, .int (nI p1)), (2, .int (nI j))]) hx hb d_X_labelled_3 rfl hl (by decide) rfl (fun ls hl => ?_)
  refine lv_iload_n hx hb d_X_labelled_4 rfl (lv_at hl 1 rfl) ?_
  refine lv_bipush (v := nI 7) hx hb d_X_labelled_5 (by decide) ?_
  refine lv_iload_n hx hb d_X_labelled_7 rfl (lv_at hl 0 rfl) ?_
  refine lv_ishl hx hb d_X_labelled_8 ?_
  refine wz_topi (y := nI (7 * 8 ^ p1)) (pz_shl (by decide) (by omega)) ?_
  refine lv_iconst (v := (-1)) hx hb d_X_labelled_9 (by decide) ?_
  refine lv_ixor hx hb d_X_labelled_10 ?_
  refine lv_iand hx hb d_X_labelled_11 ?_
  refine lv_iload_n hx hb d_X_labelled_12 rfl (lv_at hl 3 rfl) ?_
  refine lv_iload_n hx hb d_X_labelled_13 rfl (lv_at hl 0 rfl) ?_
  refine lv_ishl hx hb d_X_labelled_14 ?_
  refine wz_topi (y := nI (j * 8 ^ p1)) (pz_shl hj (by omega)) ?_
  refine lv_ior hx hb d_X_labelled_15 ?_
  refine wz_topi (y := nI (pz_lab cd p1 j)) (pz_lab_I hn hcd hp1 hj) ?_
  exact wz_iret hx hb hr hlocks hK hP hD hS d_X_labelled_16 ⟨rfl, rfl⟩
def po_X_move (q : wz_Q) (ax n k : Nat) (sg tu : Nat → Nat → Nat) (od : Nat → Nat) (sa gl : Nat) (F : cx_F) : Int32 → wz_G → Prop := fun v w => (k = 6 ∧ v = -1 ∧ cx q ax n k sg tu od sa gl F w) ∨ (k < 6 ∧ v = nI k ∧ cx q ax n (k + 1) (pz_up sg k (fun p => p)) (pz_up tu k (fun p => p)) (pz_up od k 1) sa gl none w)
set_option maxHeartbeats 4000000 in
set_option maxRecDepth 100000 in
/-- a new move -/
theorem c_X_move (l : Launch) (D : va_G) (q : wz_Q) (ax n k : Nat) (sg tu : Nat → Nat → Nat) (od : Nat → Nat) (sa gl : Nat) (F : cx_F) (WW : wz_G) (hW : cx q ax n k sg tu od sa gl F WW) : wz_Mi l y_X_move ws_X_move ({ frames := 2, cells := 0, slots := 0, locals := 45 } : Room) D q ([.ref ax] : List Value) WW (po_X_move q ax n k sg tu od sa gl F) 0 0 := by
  obtain ⟨as9, ab, ac, ak, ag, am, b, rl, rt, fo, M, rw, bg, sx, ro, ln, wz, G, st, sl, L, f1, w1, e1, z1, y1, d1, m1, c1, f2, w2, e2, z2, y2, d2, m2, c2, f3, w3, e3, z3, y3, d3, m3, c3, rfl, ⟨hn1, hn, hk, hsa, hgl, hb0, hb30, hM⟩, hmv, hgr, ⟨hw1, hw2, hw3⟩, hbg, hF⟩ := hW
  have hfl := pz_fact_le hn
  intro sz9
  refine wz_enter (cc := b_X_move) (maxL := 2) (ret := (some .int)) (Qc := fun A => (va_Qi (po_X_move q ax n k sg tu od sa gl F) (wz_At D q A) A)) (by decide) (Nat.le_of_ble_eq_true rfl) ?_
  intro p e s m below meth c A ls C hP hD hS hl
  obtain ⟨hx, hb, hr, hml, hlocks, hown, hts, hN, hK, hA, hnm⟩ := C
  have hown : s.vm.findClass "TwoEndSearch" = some m.cls := hown
  have hl : lv_has ls 2 [(0, .ref ax)] := hl
  refine lv_aload_n hx hb d_X_move_0 rfl (lv_at hl 0 rfl) ?_
  refine wz_get (v := .ref (am 0)) (T := T_X) (N := 5) hx hb hts i_X hown hK hP 0 0 rfl rfl rfl 1 (by decide) (hts _ kw_211) rfl rfl d_X_move_1 ?_
  have hQ := wz_split (n := 9) (gc := [mv_W q am n k rt fo, wz_rows 12 rt (fun i9 => .inl (q.1, 8, .inl (M i9)))]) (gr := [xo_W q ax n (am 0) sa gl (as9 0), se_W q as9 n (am 0) (ag 0) (ab 0) (ac 0) (ak 0) (pz_fact n) rw bg sx ro ln wz, bl_W q ab (am 0) (ag 0) 0 (pz_fact n) f1 w1 e1 z1 y1 d1 m1 c1, bl_W q ac (am 0) (ag 0) 0 (pz_fact n) f2 w2 e2 z2 y2 d2 m2 c2, bl_W q ak (am 0) (ag 0) 6 (pz_fact n) f3 w3 e3 z3 y3 d3 m3 c3, gq_W q ag (am 0) (pz_fact n) (2 ^ b) (32 - b) rl st sl G.length, wz_rows 12 rl (fun i9 => .inl (q.1, pz_fact n, .inl (L i9)))]) [7, 8] [0, 1, 2, 3, 4, 5, 6] rfl (by decide) rfl rfl hP hD
  refine wz_calli (va_runV (As := []) (rest := []) ⟨hx, hb, hml, hown, hts⟩ (c_M_add l D q am n k rt fo M hk _) (cwV 0 hts (wz_goodV kw_230 kw_231 kw_232 kw_32 kw_233) rfl rfl rfl (by decide +kernel) ⟨Nat.le_of_ble_eq_true rfl, Nat.le_of_ble_eq_true rfl⟩) (wz_preV (gi := 0) (k := 0) hN hK hQ wz_L_ok rfl rfl rfl) rfl rfl hl.1 rfl (lv_room (Nat.le_of_ble_eq_true rfl)) d_X_move_4 ⟨Nat.le_of_ble_eq_true rfl, Nat.le_of_ble_eq_true rfl⟩) hQ hS hA (fun v_4 gx H locs hp hP hD hS => ?_)
  rcases hp with ⟨hk6, rfl, rfl⟩ | ⟨hk6, rfl, M', rfl, h1, h2⟩
  · skip
    obtain ⟨hP, hD⟩ := wz_ord (n := 9) (gs' := [xo_W q ax n (am 0) sa gl (as9 0), se_W q as9 n (am 0) (ag 0) (ab 0) (ac 0) (ak 0) (pz_fact n) rw bg sx ro ln wz, bl_W q ab (am 0) (ag 0) 0 (pz_fact n) f1 w1 e1 z1 y1 d1 m1 c1, bl_W q ac (am 0) (ag 0) 0 (pz_fact n) f2 w2 e2 z2 y2 d2 m2 c2, bl_W q ak (am 0) (ag 0) 6 (pz_fact n) f3 w3 e3 z3 y3 d3 m3 c3, gq_W q ag (am 0) (pz_fact n) (2 ^ b) (32 - b) rl st sl G.length, wz_rows 12 rl (fun i9 => .inl (q.1, pz_fact n, .inl (L i9))), mv_W q am n k rt fo, wz_rows 12 rt (fun i9 => .inl (q.1, 8, .inl (M i9)))]) [2, 3, 4, 5, 6, 7, 8, 0, 1] rfl (by decide) rfl hP hD
    refine lv_istore_n (lv' := [(1, .int (-1)), (0, .ref ax)]) hx hb d_X_move_7 rfl hl (by decide) rfl (fun ls hl => ?_)
    refine lv_iload_n hx hb d_X_move_8 rfl (lv_at hl 0 rfl) ?_
    refine lv_iconst (v := (-1)) hx hb d_X_move_9 (by decide) ?_
    refine lv_icmp_eq (tgt := 17) hx hb d_X_move_10 (by decide) (fun hc => ?_) (fun hc => ?_)
    · skip
      refine lv_iload_n hx hb d_X_move_17 rfl (lv_at hl 0 rfl) ?_
      exact wz_iret hx hb hr hlocks hK hP hD hS d_X_move_18 (Or.inl ⟨by omega, rfl, (cx_in ⟨⟨hn1, hn, hk, hsa, hgl, hb0, hb30, hM⟩, hmv, hgr, ⟨hw1, hw2, hw3⟩, hbg, hF⟩)⟩)
    · skip
      exact absurd rfl hc
  · skip
    obtain ⟨hP, hD⟩ := wz_ord (n := 9) (gs' := [xo_W q ax n (am 0) sa gl (as9 0), se_W q as9 n (am 0) (ag 0) (ab 0) (ac 0) (ak 0) (pz_fact n) rw bg sx ro ln wz, bl_W q ab (am 0) (ag 0) 0 (pz_fact n) f1 w1 e1 z1 y1 d1 m1 c1, bl_W q ac (am 0) (ag 0) 0 (pz_fact n) f2 w2 e2 z2 y2 d2 m2 c2, bl_W q ak (am 0) (ag 0) 6 (pz_fact n) f3 w3 e3 z3 y3 d3 m3 c3, gq_W q ag (am 0) (pz_fact n) (2 ^ b) (32 - b) rl st sl G.length, wz_rows 12 rl (fun i9 => .inl (q.1, pz_fact n, .inl (L i9))), mv_W q am n (k + 1) rt (upd fo k (nI 1)), wz_rows 12 rt (fun i9 => .inl (q.1, 8, .inl (M' i9)))]) [2, 3, 4, 5, 6, 7, 8, 0, 1] rfl (by decide) rfl hP hD
    refine lv_istore_n (lv' := [(1, .int (nI k)), (0, .ref ax)]) hx hb d_X_move_7 rfl hl (by decide) rfl (fun ls hl => ?_)
    refine lv_iload_n hx hb d_X_move_8 rfl (lv_at hl 0 rfl) ?_
    refine lv_iconst (v := (-1)) hx hb d_X_move_9 (by decide) ?_
    refine lv_icmp_eq (tgt := 17) hx hb d_X_move_10 (by decide) (fun hc => ?_) (fun hc => ?_)
    · skip
      exact absurd hc (by
        intro q
        have h1 := nI_pos (n := k) (by omega)
        rw [q] at h1
        exact h1 (by decide))
    · skip
      refine lv_aload_n hx hb d_X_move_13 rfl (lv_at hl 1 rfl) ?_
      have hQ := wz_split (n := 9) (gc := [xo_W q ax n (am 0) sa gl (as9 0), se_W q as9 n (am 0) (ag 0) (ab 0) (ac 0) (ak 0) (pz_fact n) rw bg sx ro ln wz]) (gr := [bl_W q ab (am 0) (ag 0) 0 (pz_fact n) f1 w1 e1 z1 y1 d1 m1 c1, bl_W q ac (am 0) (ag 0) 0 (pz_fact n) f2 w2 e2 z2 y2 d2 m2 c2, bl_W q ak (am 0) (ag 0) 6 (pz_fact n) f3 w3 e3 z3 y3 d3 m3 c3, gq_W q ag (am 0) (pz_fact n) (2 ^ b) (32 - b) rl st sl G.length, wz_rows 12 rl (fun i9 => .inl (q.1, pz_fact n, .inl (L i9))), mv_W q am n (k + 1) rt (upd fo k (nI 1)), wz_rows 12 rt (fun i9 => .inl (q.1, 8, .inl (M' i9)))]) [0, 1] [2, 3, 4, 5, 6, 7, 8] rfl (by decide) rfl rfl hP hD
      refine wz_callv (va_runV (As := []) (rest := []) ⟨hx, hb, hml, hown, hts⟩ (c_X_forgetAll l D q ax as9 n (am 0) (ag 0) (ab 0) (ac 0) (ak 0) (pz_fact n) sa gl rw bg sx ro ln wz _) (cwV 0 hts (wz_goodV kw_238 kw_240 kw_1 kw_30 kw_241) rfl rfl rfl (by decide +kernel) ⟨Nat.le_of_ble_eq_true rfl, Nat.le_of_ble_eq_true rfl⟩) (wz_preV (gi := 0) (k := 0) hN hK hQ wz_L_ok rfl rfl rfl) rfl rfl hl.1 rfl (lv_room (Nat.le_of_ble_eq_true rfl)) d_X_move_14 ⟨Nat.le_of_ble_eq_true rfl, Nat.le_of_ble_eq_true rfl⟩) hQ hS hA (fun gx H locs hp hP hD hS => ?_)
      have hp : gx = _ := hp
      subst hp
      obtain ⟨hP, hD⟩ := wz_ord (n := 9) (gs' := [xo_W q ax n (am 0) sa gl (as9 0), se_W q as9 n (am 0) (ag 0) (ab 0) (ac 0) (ak 0) (pz_fact n) rw (nI 0) sx ro (-1) 0, bl_W q ab (am 0) (ag 0) 0 (pz_fact n) f1 w1 e1 z1 y1 d1 m1 c1, bl_W q ac (am 0) (ag 0) 0 (pz_fact n) f2 w2 e2 z2 y2 d2 m2 c2, bl_W q ak (am 0) (ag 0) 6 (pz_fact n) f3 w3 e3 z3 y3 d3 m3 c3, gq_W q ag (am 0) (pz_fact n) (2 ^ b) (32 - b) rl st sl G.length, wz_rows 12 rl (fun i9 => .inl (q.1, pz_fact n, .inl (L i9))), mv_W q am n (k + 1) rt (upd fo k (nI 1)), wz_rows 12 rt (fun i9 => .inl (q.1, 8, .inl (M' i9)))]) [0, 1, 2, 3, 4, 5, 6, 7, 8] rfl (by decide) rfl hP hD
      refine lv_iload_n hx hb d_X_move_17 rfl (lv_at hl 0 rfl) ?_
      exact wz_iret hx hb hr hlocks hK hP hD hS d_X_move_18 (Or.inr ⟨hk6, rfl, (cx_in ⟨⟨hn1, hn, hk6, hsa, hgl, hb0, hb30, hM⟩, (mv_ok_add hn hk6 hmv h1 h2), hgr, ⟨hw1, hw2, hw3⟩, Or.inl rfl, (⟨rfl, rfl⟩ : cx_f none n (-1) 0 rw)⟩)⟩)
def po_X_cycle (q : wz_Q) (ax n k : Nat) (sg tu : Nat → Nat → Nat) (od : Nat → Nat) (sa gl : Nat) (F : cx_F) (x y z : Int32) : Int32 → wz_G → Prop := fun v w => (v = 0 ∧ cx q ax n k sg tu od sa gl F w ∧ ¬ ∃ mo fr t, mv_can n k sg x y z mo fr t) ∨ (v = 1 ∧ ∃ mo fr t o', mv_can n k sg x y z mo fr t ∧ pz_od n (pz_cyc (sg mo) fr t) o' ∧ cx q ax n k (pz_up sg mo (pz_cyc (sg mo) fr t)) (pz_up tu mo (pz_cyi (sg mo) (tu mo) fr t)) (pz_up od mo o') sa gl none w)
set_option maxHeartbeats 4000000 in
set_option maxRecDepth 100000 in
/-- a move is lengthened -/
theorem c_X_cycle (l : Launch) (D : va_G) (q : wz_Q) (ax n k : Nat) (sg tu : Nat → Nat → Nat) (od : Nat → Nat) (sa gl : Nat) (F : cx_F) (x y z : Int32) (WW : wz_G) (hW : cx q ax n k sg tu od sa gl F WW) : wz_Mi l y_X_cycle ws_X_cycle ({ frames := 3, cells := 0, slots := 0, locals := 74 } : Room) D q ([.ref ax, .int x, .int y, .int z] : List Value) WW (po_X_cycle q ax n k sg tu od sa gl F x y z) 0 0 := by
  obtain ⟨as9, ab, ac, ak, ag, am, b, rl, rt, fo, M, rw, bg, sx, ro, ln, wz, G, st, sl, L, f1, w1, e1, z1, y1, d1, m1, c1, f2, w2, e2, z2, y2, d2, m2, c2, f3, w3, e3, z3, y3, d3, m3, c3, rfl, ⟨hn1, hn, hk, hsa, hgl, hb0, hb30, hM⟩, hmv, hgr, ⟨hw1, hw2, hw3⟩, hbg, hF⟩ := hW
  have hfl := pz_fact_le hn
  intro sz9
  refine wz_enter (cc := b_X_cycle) (maxL := 5) (ret := (some .boolean)) (Qc := fun A => (va_Qi (po_X_cycle q ax n k sg tu od sa gl F x y z) (wz_At D q A) A)) (by decide) (Nat.le_of_ble_eq_true rfl) ?_
  intro p e s m below meth c A ls C hP hD hS hl
  obtain ⟨hx, hb, hr, hml, hlocks, hown, hts, hN, hK, hA, hnm⟩ := C
  have hown : s.vm.findClass "TwoEndSearch" = some m.cls := hown
  have hl : lv_has ls 5 [(0, .ref ax), (1, .int x), (2, .int y), (3, .int z)] := hl
  refine lv_aload_n hx hb d_X_cycle_0 rfl (lv_at hl 0 rfl) ?_
  refine wz_get (v := .ref (am 0)) (T := T_X) (N := 5) hx hb hts i_X hown hK hP 0 0 rfl rfl rfl 1 (by decide) (hts _ kw_211) rfl rfl d_X_cycle_1 ?_
  refine lv_iload_n hx hb d_X_cycle_4 rfl (lv_at hl 1 rfl) ?_
  refine lv_iload_n hx hb d_X_cycle_5 rfl (lv_at hl 2 rfl) ?_
  refine lv_iload_n hx hb d_X_cycle_6 rfl (lv_at hl 3 rfl) ?_
  have hQ := wz_split (n := 9) (gc := [mv_W q am n k rt fo, wz_rows 12 rt (fun i9 => .inl (q.1, 8, .inl (M i9)))]) (gr := [xo_W q ax n (am 0) sa gl (as9 0), se_W q as9 n (am 0) (ag 0) (ab 0) (ac 0) (ak 0) (pz_fact n) rw bg sx ro ln wz, bl_W q ab (am 0) (ag 0) 0 (pz_fact n) f1 w1 e1 z1 y1 d1 m1 c1, bl_W q ac (am 0) (ag 0) 0 (pz_fact n) f2 w2 e2 z2 y2 d2 m2 c2, bl_W q ak (am 0) (ag 0) 6 (pz_fact n) f3 w3 e3 z3 y3 d3 m3 c3, gq_W q ag (am 0) (pz_fact n) (2 ^ b) (32 - b) rl st sl G.length, wz_rows 12 rl (fun i9 => .inl (q.1, pz_fact n, .inl (L i9)))]) [7, 8] [0, 1, 2, 3, 4, 5, 6] rfl (by decide) rfl rfl hP hD
  refine wz_calli (va_runV (As := [.int x, .int y, .int z]) (rest := []) ⟨hx, hb, hml, hown, hts⟩ (c_M_lengthen l D q am n k rt fo M x y z sg tu od hn hk hmv _) (cwV 3 hts (wz_goodV kw_250 kw_251 kw_252 kw_32 kw_253) rfl rfl rfl (by decide +kernel) ⟨Nat.le_of_ble_eq_true rfl, Nat.le_of_ble_eq_true rfl⟩) (wz_preV (gi := 0) (k := 0) hN hK hQ wz_L_ok rfl rfl rfl) rfl rfl hl.1 rfl (lv_room (Nat.le_of_ble_eq_true rfl)) d_X_cycle_7 ⟨Nat.le_of_ble_eq_true rfl, Nat.le_of_ble_eq_true rfl⟩) hQ hS hA (fun v_7 gx H locs hp hP hD hS => ?_)
  rcases hp with ⟨rfl, rfl, hno⟩ | ⟨rfl, mo, fr, t, o', f', M', hcan, hod, rfl, hmv2⟩
  · skip
    obtain ⟨hP, hD⟩ := wz_ord (n := 9) (gs' := [xo_W q ax n (am 0) sa gl (as9 0), se_W q as9 n (am 0) (ag 0) (ab 0) (ac 0) (ak 0) (pz_fact n) rw bg sx ro ln wz, bl_W q ab (am 0) (ag 0) 0 (pz_fact n) f1 w1 e1 z1 y1 d1 m1 c1, bl_W q ac (am 0) (ag 0) 0 (pz_fact n) f2 w2 e2 z2 y2 d2 m2 c2, bl_W q ak (am 0) (ag 0) 6 (pz_fact n) f3 w3 e3 z3 y3 d3 m3 c3, gq_W q ag (am 0) (pz_fact n) (2 ^ b) (32 - b) rl st sl G.length, wz_rows 12 rl (fun i9 => .inl (q.1, pz_fact n, .inl (L i9))), mv_W q am n k rt fo, wz_rows 12 rt (fun i9 => .inl (q.1, 8, .inl (M i9)))]) [2, 3, 4, 5, 6, 7, 8, 0, 1] rfl (by decide) rfl hP hD
    refine lv_istore (lv' := [(4, .int 0), (0, .ref ax), (1, .int x), (2, .int y), (3, .int z)]) hx hb d_X_cycle_10 hl (by decide) rfl (fun ls hl => ?_)
    refine lv_iload hx hb d_X_cycle_12 (lv_at hl 0 rfl) ?_
    refine lv_if_eq (tgt := 21) hx hb d_X_cycle_14 (by decide) (fun hc => ?_) (fun hc => ?_)
    · skip
      refine lv_iload hx hb d_X_cycle_21 (lv_at hl 0 rfl) ?_
      exact wz_zret hx hb hr hlocks hK hP hD hS d_X_cycle_23 (by first | exact Or.inl rfl | exact Or.inr rfl) (Or.inl ⟨rfl, (cx_in ⟨⟨hn1, hn, hk, hsa, hgl, hb0, hb30, hM⟩, hmv, hgr, ⟨hw1, hw2, hw3⟩, hbg, hF⟩), hno⟩)
    · skip
      exact absurd rfl hc
  · skip
    obtain ⟨hP, hD⟩ := wz_ord (n := 9) (gs' := [xo_W q ax n (am 0) sa gl (as9 0), se_W q as9 n (am 0) (ag 0) (ab 0) (ac 0) (ak 0) (pz_fact n) rw bg sx ro ln wz, bl_W q ab (am 0) (ag 0) 0 (pz_fact n) f1 w1 e1 z1 y1 d1 m1 c1, bl_W q ac (am 0) (ag 0) 0 (pz_fact n) f2 w2 e2 z2 y2 d2 m2 c2, bl_W q ak (am 0) (ag 0) 6 (pz_fact n) f3 w3 e3 z3 y3 d3 m3 c3, gq_W q ag (am 0) (pz_fact n) (2 ^ b) (32 - b) rl st sl G.length, wz_rows 12 rl (fun i9 => .inl (q.1, pz_fact n, .inl (L i9))), mv_W q am n k rt f', wz_rows 12 rt (fun i9 => .inl (q.1, 8, .inl (M' i9)))]) [2, 3, 4, 5, 6, 7, 8, 0, 1] rfl (by decide) rfl hP hD
    refine lv_istore (lv' := [(4, .int 1), (0, .ref ax), (1, .int x), (2, .int y), (3, .int z)]) hx hb d_X_cycle_10 hl (by decide) rfl (fun ls hl => ?_)
    refine lv_iload hx hb d_X_cycle_12 (lv_at hl 0 rfl) ?_
    refine lv_if_eq (tgt := 21) hx hb d_X_cycle_14 (by decide) (fun hc => ?_) (fun hc => ?_)
    · skip
      exact absurd hc (by decide)
    · skip
      refine lv_aload_n hx hb d_X_cycle_17 rfl (lv_at hl 1 rfl) ?_
      have hQ := wz_split (n := 9) (gc := [xo_W q ax n (am 0) sa gl (as9 0), se_W q as9 n (am 0) (ag 0) (ab 0) (ac 0) (ak 0) (pz_fact n) rw bg sx ro ln wz]) (gr := [bl_W q ab (am 0) (ag 0) 0 (pz_fact n) f1 w1 e1 z1 y1 d1 m1 c1, bl_W q ac (am 0) (ag 0) 0 (pz_fact n) f2 w2 e2 z2 y2 d2 m2 c2, bl_W q ak (am 0) (ag 0) 6 (pz_fact n) f3 w3 e3 z3 y3 d3 m3 c3, gq_W q ag (am 0) (pz_fact n) (2 ^ b) (32 - b) rl st sl G.length, wz_rows 12 rl (fun i9 => .inl (q.1, pz_fact n, .inl (L i9))), mv_W q am n k rt f', wz_rows 12 rt (fun i9 => .inl (q.1, 8, .inl (M' i9)))]) [0, 1] [2, 3, 4, 5, 6, 7, 8] rfl (by decide) rfl rfl hP hD
      refine wz_callv (va_runV (As := []) (rest := []) ⟨hx, hb, hml, hown, hts⟩ (c_X_forgetAll l D q ax as9 n (am 0) (ag 0) (ab 0) (ac 0) (ak 0) (pz_fact n) sa gl rw bg sx ro ln wz _) (cwV 0 hts (wz_goodV kw_238 kw_240 kw_1 kw_30 kw_241) rfl rfl rfl (by decide +kernel) ⟨Nat.le_of_ble_eq_true rfl, Nat.le_of_ble_eq_true rfl⟩) (wz_preV (gi := 0) (k := 0) hN hK hQ wz_L_ok rfl rfl rfl) rfl rfl hl.1 rfl (lv_room (Nat.le_of_ble_eq_true rfl)) d_X_cycle_18 ⟨Nat.le_of_ble_eq_true rfl, Nat.le_of_ble_eq_true rfl⟩) hQ hS hA (fun gx H locs hp hP hD hS => ?_)
      have hp : gx = _ := hp
      subst hp
      obtain ⟨hP, hD⟩ := wz_ord (n := 9) (gs' := [xo_W q ax n (am 0) sa gl (as9 0), se_W q as9 n (am 0) (ag 0) (ab 0) (ac 0) (ak 0) (pz_fact n) rw (nI 0) sx ro (-1) 0, bl_W q ab (am 0) (ag 0) 0 (pz_fact n) f1 w1 e1 z1 y1 d1 m1 c1, bl_W q ac (am 0) (ag 0) 0 (pz_fact n) f2 w2 e2 z2 y2 d2 m2 c2, bl_W q ak (am 0) (ag 0) 6 (pz_fact n) f3 w3 e3 z3 y3 d3 m3 c3, gq_W q ag (am 0) (pz_fact n) (2 ^ b) (32 - b) rl st sl G.length, wz_rows 12 rl (fun i9 => .inl (q.1, pz_fact n, .inl (L i9))), mv_W q am n k rt f', wz_rows 12 rt (fun i9 => .inl (q.1, 8, .inl (M' i9)))]) [0, 1, 2, 3, 4, 5, 6, 7, 8] rfl (by decide) rfl hP hD
      refine lv_iload hx hb d_X_cycle_21 (lv_at hl 0 rfl) ?_
      exact wz_zret hx hb hr hlocks hK hP hD hS d_X_cycle_23 (by first | exact Or.inl rfl | exact Or.inr rfl) (Or.inr ⟨rfl, mo, fr, t, o', hcan, hod, (cx_in ⟨⟨hn1, hn, hk, hsa, hgl, hb0, hb30, hM⟩, hmv2, hgr, ⟨hw1, hw2, hw3⟩, Or.inl rfl, (⟨rfl, rfl⟩ : cx_f none n (-1) 0 rw)⟩)⟩)
def po_X_order (q : wz_Q) (ax n k : Nat) (sg tu : Nat → Nat → Nat) (od : Nat → Nat) (sa gl : Nat) (F : cx_F) (x : Int32) : Int32 → wz_G → Prop := fun v w => cx q ax n k sg tu od sa gl F w ∧ ((∃ j, j < k ∧ x = nI j ∧ v = nI (od j)) ∨ ((¬ ∃ j, j < k ∧ x = nI j) ∧ v = nI 0))
set_option maxHeartbeats 4000000 in
set_option maxRecDepth 100000 in
/-- the order of a move -/
theorem c_X_order (l : Launch) (D : va_G) (q : wz_Q) (ax n k : Nat) (sg tu : Nat → Nat → Nat) (od : Nat → Nat) (sa gl : Nat) (F : cx_F) (x : Int32) (WW : wz_G) (hW : cx q ax n k sg tu od sa gl F WW) : wz_Mi l y_X_order ws_X_order ({ frames := 1, cells := 0, slots := 0, locals := 21 } : Room) D q ([.ref ax, .int x] : List Value) WW (po_X_order q ax n k sg tu od sa gl F x) 0 0 := by
  obtain ⟨as9, ab, ac, ak, ag, am, b, rl, rt, fo, M, rw, bg, sx, ro, ln, wz, G, st, sl, L, f1, w1, e1, z1, y1, d1, m1, c1, f2, w2, e2, z2, y2, d2, m2, c2, f3, w3, e3, z3, y3, d3, m3, c3, rfl, ⟨hn1, hn, hk, hsa, hgl, hb0, hb30, hM⟩, hmv, hgr, ⟨hw1, hw2, hw3⟩, hbg, hF⟩ := hW
  have hfl := pz_fact_le hn
  intro sz9
  refine wz_enter (cc := b_X_order) (maxL := 2) (ret := (some .int)) (Qc := fun A => (va_Qi (po_X_order q ax n k sg tu od sa gl F x) (wz_At D q A) A)) (by decide) (Nat.le_of_ble_eq_true rfl) ?_
  intro p e s m below meth c A ls C hP hD hS hl
  obtain ⟨hx, hb, hr, hml, hlocks, hown, hts, hN, hK, hA, hnm⟩ := C
  have hown : s.vm.findClass "TwoEndSearch" = some m.cls := hown
  have hl : lv_has ls 2 [(0, .ref ax), (1, .int x)] := hl
  refine lv_aload_n hx hb d_X_order_0 rfl (lv_at hl 0 rfl) ?_
  refine wz_get (v := .ref (am 0)) (T := T_X) (N := 5) hx hb hts i_X hown hK hP 0 0 rfl rfl rfl 1 (by decide) (hts _ kw_211) rfl rfl d_X_order_1 ?_
  refine lv_iload_n hx hb d_X_order_4 rfl (lv_at hl 1 rfl) ?_
  have hQ := wz_split (n := 9) (gc := [mv_W q am n k rt fo]) (gr := [xo_W q ax n (am 0) sa gl (as9 0), se_W q as9 n (am 0) (ag 0) (ab 0) (ac 0) (ak 0) (pz_fact n) rw bg sx ro ln wz, bl_W q ab (am 0) (ag 0) 0 (pz_fact n) f1 w1 e1 z1 y1 d1 m1 c1, bl_W q ac (am 0) (ag 0) 0 (pz_fact n) f2 w2 e2 z2 y2 d2 m2 c2, bl_W q ak (am 0) (ag 0) 6 (pz_fact n) f3 w3 e3 z3 y3 d3 m3 c3, gq_W q ag (am 0) (pz_fact n) (2 ^ b) (32 - b) rl st sl G.length, wz_rows 12 rl (fun i9 => .inl (q.1, pz_fact n, .inl (L i9))), wz_rows 12 rt (fun i9 => .inl (q.1, 8, .inl (M i9)))]) [7] [0, 1, 2, 3, 4, 5, 6, 8] rfl (by decide) rfl rfl hP hD
  refine wz_calli (va_runV (As := [.int x]) (rest := []) ⟨hx, hb, hml, hown, hts⟩ (c_M_has l D q am n k rt fo x hk _) (cwV 1 hts (wz_goodV kw_275 kw_255 kw_256 kw_32 kw_257) rfl rfl rfl (by decide +kernel) ⟨Nat.le_of_ble_eq_true rfl, Nat.le_of_ble_eq_true rfl⟩) (wz_preV (gi := 0) (k := 0) hN hK hQ wz_L_ok rfl rfl rfl) rfl rfl hl.1 rfl (lv_room (Nat.le_of_ble_eq_true rfl)) d_X_order_5 ⟨Nat.le_of_ble_eq_true rfl, Nat.le_of_ble_eq_true rfl⟩) hQ hS hA (fun v_5 gx H locs hp0 hP hD hS => ?_)
  obtain ⟨rfl, hp0⟩ := hp0
  obtain ⟨hP, hD⟩ := wz_ord (n := 9) (gs' := [xo_W q ax n (am 0) sa gl (as9 0), se_W q as9 n (am 0) (ag 0) (ab 0) (ac 0) (ak 0) (pz_fact n) rw bg sx ro ln wz, bl_W q ab (am 0) (ag 0) 0 (pz_fact n) f1 w1 e1 z1 y1 d1 m1 c1, bl_W q ac (am 0) (ag 0) 0 (pz_fact n) f2 w2 e2 z2 y2 d2 m2 c2, bl_W q ak (am 0) (ag 0) 6 (pz_fact n) f3 w3 e3 z3 y3 d3 m3 c3, gq_W q ag (am 0) (pz_fact n) (2 ^ b) (32 - b) rl st sl G.length, wz_rows 12 rl (fun i9 => .inl (q.1, pz_fact n, .inl (L i9))), mv_W q am n k rt fo, wz_rows 12 rt (fun i9 => .inl (q.1, 8, .inl (M i9)))]) [1, 2, 3, 4, 5, 6, 7, 0, 8] rfl (by decide) rfl hP hD
  refine lv_if_eq (tgt := 22) hx hb d_X_order_8 (by decide) (fun hc => ?_) (fun hc => ?_)
  · skip
    refine lv_iconst (v := nI 0) hx hb d_X_order_22 (by decide) ?_
    exact wz_iret hx hb hr hlocks hK hP hD hS d_X_order_23 ⟨(cx_in ⟨⟨hn1, hn, hk, hsa, hgl, hb0, hb30, hM⟩, hmv, hgr, ⟨hw1, hw2, hw3⟩, hbg, hF⟩), Or.inr ⟨wz_bit_0 hp0 hc, rfl⟩⟩
  · skip
    obtain ⟨j, hj, rfl⟩ := wz_bit_1 hp0 hc
    refine lv_aload_n hx hb d_X_order_11 rfl (lv_at hl 0 rfl) ?_
    refine wz_get (v := .ref (am 0)) (T := T_X) (N := 5) hx hb hts i_X hown hK hP 0 0 rfl rfl rfl 1 (by decide) (hts _ kw_211) rfl rfl d_X_order_12 ?_
    refine lv_iload_n hx hb d_X_order_15 rfl (lv_at hl 1 rfl) ?_
    have hQ := wz_split (n := 9) (gc := [mv_W q am n k rt fo]) (gr := [xo_W q ax n (am 0) sa gl (as9 0), se_W q as9 n (am 0) (ag 0) (ab 0) (ac 0) (ak 0) (pz_fact n) rw bg sx ro ln wz, bl_W q ab (am 0) (ag 0) 0 (pz_fact n) f1 w1 e1 z1 y1 d1 m1 c1, bl_W q ac (am 0) (ag 0) 0 (pz_fact n) f2 w2 e2 z2 y2 d2 m2 c2, bl_W q ak (am 0) (ag 0) 6 (pz_fact n) f3 w3 e3 z3 y3 d3 m3 c3, gq_W q ag (am 0) (pz_fact n) (2 ^ b) (32 - b) rl st sl G.length, wz_rows 12 rl (fun i9 => .inl (q.1, pz_fact n, .inl (L i9))), wz_rows 12 rt (fun i9 => .inl (q.1, 8, .inl (M i9)))]) [7] [0, 1, 2, 3, 4, 5, 6, 8] rfl (by decide) rfl rfl hP hD
    refine wz_calli (va_runV (As := [.int (nI j)]) (rest := []) ⟨hx, hb, hml, hown, hts⟩ (c_M_orderOf l D q am n k rt fo j (by omega) _) (cwV 1 hts (wz_goodV kw_276 kw_277 kw_278 kw_32 kw_279) rfl rfl rfl (by decide +kernel) ⟨Nat.le_of_ble_eq_true rfl, Nat.le_of_ble_eq_true rfl⟩) (wz_preV (gi := 0) (k := 0) hN hK hQ wz_L_ok rfl rfl rfl) rfl rfl hl.1 rfl (lv_room (Nat.le_of_ble_eq_true rfl)) d_X_order_16 ⟨Nat.le_of_ble_eq_true rfl, Nat.le_of_ble_eq_true rfl⟩) hQ hS hA (fun v_16 gx H locs hp hP hD hS => ?_)
    obtain ⟨rfl, rfl⟩ := hp
    obtain ⟨hP, hD⟩ := wz_ord (n := 9) (gs' := [xo_W q ax n (am 0) sa gl (as9 0), se_W q as9 n (am 0) (ag 0) (ab 0) (ac 0) (ak 0) (pz_fact n) rw bg sx ro ln wz, bl_W q ab (am 0) (ag 0) 0 (pz_fact n) f1 w1 e1 z1 y1 d1 m1 c1, bl_W q ac (am 0) (ag 0) 0 (pz_fact n) f2 w2 e2 z2 y2 d2 m2 c2, bl_W q ak (am 0) (ag 0) 6 (pz_fact n) f3 w3 e3 z3 y3 d3 m3 c3, gq_W q ag (am 0) (pz_fact n) (2 ^ b) (32 - b) rl st sl G.length, wz_rows 12 rl (fun i9 => .inl (q.1, pz_fact n, .inl (L i9))), mv_W q am n k rt fo, wz_rows 12 rt (fun i9 => .inl (q.1, 8, .inl (M i9)))]) [1, 2, 3, 4, 5, 6, 7, 0, 8] rfl (by decide) rfl hP hD
    refine wz_topi (y := nI (od j)) (hmv j hj).2.2.1 ?_
    refine lv_goto (tgt := 23) hx hb d_X_order_19 (by decide) ?_
    exact wz_iret hx hb hr hlocks hK hP hD hS d_X_order_23 ⟨(cx_in ⟨⟨hn1, hn, hk, hsa, hgl, hb0, hb30, hM⟩, hmv, hgr, ⟨hw1, hw2, hw3⟩, hbg, hF⟩), Or.inl ⟨j, hj, rfl, rfl⟩⟩
def po_X_clear (q : wz_Q) (ax n k : Nat) (sg tu : Nat → Nat → Nat) (od : Nat → Nat) (sa gl : Nat) (F : cx_F) : wz_G → Prop := fun w => cx q ax n 0 sg tu od (pz_first n) (pz_first n) none w
set_option maxHeartbeats 4000000 in
set_option maxRecDepth 100000 in
/-- as new -/
theorem c_X_clear (l : Launch) (D : va_G) (q : wz_Q) (ax n k : Nat) (sg tu : Nat → Nat → Nat) (od : Nat → Nat) (sa gl : Nat) (F : cx_F) (WW : wz_G) (hW : cx q ax n k sg tu od sa gl F WW) : wz_Mv l y_X_clear ws_X_clear ({ frames := 2, cells := 0, slots := 0, locals := 40 } : Room) D q ([.ref ax] : List Value) WW (po_X_clear q ax n k sg tu od sa gl F) 0 0 := by
  obtain ⟨as9, ab, ac, ak, ag, am, b, rl, rt, fo, M, rw, bg, sx, ro, ln, wz, G, st, sl, L, f1, w1, e1, z1, y1, d1, m1, c1, f2, w2, e2, z2, y2, d2, m2, c2, f3, w3, e3, z3, y3, d3, m3, c3, rfl, ⟨hn1, hn, hk, hsa, hgl, hb0, hb30, hM⟩, hmv, hgr, ⟨hw1, hw2, hw3⟩, hbg, hF⟩ := hW
  have hfl := pz_fact_le hn
  intro sz9
  refine wz_enter (cc := b_X_clear) (maxL := 1) (ret := none) (Qc := fun A => (va_Qv (po_X_clear q ax n k sg tu od sa gl F) (wz_At D q A) A)) (by decide) (Nat.le_of_ble_eq_true rfl) ?_
  intro p e s m below meth c A ls C hP hD hS hl
  obtain ⟨hx, hb, hr, hml, hlocks, hown, hts, hN, hK, hA, hnm⟩ := C
  have hown : s.vm.findClass "TwoEndSearch" = some m.cls := hown
  have hl : lv_has ls 1 [(0, .ref ax)] := hl
  refine lv_aload_n hx hb d_X_clear_0 rfl (lv_at hl 0 rfl) ?_
  refine wz_get (v := .ref (am 0)) (T := T_X) (N := 5) hx hb hts i_X hown hK hP 0 0 rfl rfl rfl 1 (by decide) (hts _ kw_211) rfl rfl d_X_clear_1 ?_
  have hQ := wz_split (n := 9) (gc := [mv_W q am n k rt fo]) (gr := [xo_W q ax n (am 0) sa gl (as9 0), se_W q as9 n (am 0) (ag 0) (ab 0) (ac 0) (ak 0) (pz_fact n) rw bg sx ro ln wz, bl_W q ab (am 0) (ag 0) 0 (pz_fact n) f1 w1 e1 z1 y1 d1 m1 c1, bl_W q ac (am 0) (ag 0) 0 (pz_fact n) f2 w2 e2 z2 y2 d2 m2 c2, bl_W q ak (am 0) (ag 0) 6 (pz_fact n) f3 w3 e3 z3 y3 d3 m3 c3, gq_W q ag (am 0) (pz_fact n) (2 ^ b) (32 - b) rl st sl G.length, wz_rows 12 rl (fun i9 => .inl (q.1, pz_fact n, .inl (L i9))), wz_rows 12 rt (fun i9 => .inl (q.1, 8, .inl (M i9)))]) [7] [0, 1, 2, 3, 4, 5, 6, 8] rfl (by decide) rfl rfl hP hD
  refine wz_callv (va_runV (As := []) (rest := []) ⟨hx, hb, hml, hown, hts⟩ (c_M_dropAll l D q am n k rt fo _) (cwV 0 hts (wz_goodV kw_442 kw_443 kw_444 kw_32 kw_445) rfl rfl rfl (by decide +kernel) ⟨Nat.le_of_ble_eq_true rfl, Nat.le_of_ble_eq_true rfl⟩) (wz_preV (gi := 0) (k := 0) hN hK hQ wz_L_ok rfl rfl rfl) rfl rfl hl.1 rfl (lv_room (Nat.le_of_ble_eq_true rfl)) d_X_clear_4 ⟨Nat.le_of_ble_eq_true rfl, Nat.le_of_ble_eq_true rfl⟩) hQ hS hA (fun gx H locs hp hP hD hS => ?_)
  have hp : gx = _ := hp
  subst hp
  obtain ⟨hP, hD⟩ := wz_ord (n := 9) (gs' := [xo_W q ax n (am 0) sa gl (as9 0), se_W q as9 n (am 0) (ag 0) (ab 0) (ac 0) (ak 0) (pz_fact n) rw bg sx ro ln wz, bl_W q ab (am 0) (ag 0) 0 (pz_fact n) f1 w1 e1 z1 y1 d1 m1 c1, bl_W q ac (am 0) (ag 0) 0 (pz_fact n) f2 w2 e2 z2 y2 d2 m2 c2, bl_W q ak (am 0) (ag 0) 6 (pz_fact n) f3 w3 e3 z3 y3 d3 m3 c3, gq_W q ag (am 0) (pz_fact n) (2 ^ b) (32 - b) rl st sl G.length, wz_rows 12 rl (fun i9 => .inl (q.1, pz_fact n, .inl (L i9))), mv_W q am n 0 rt fo, wz_rows 12 rt (fun i9 => .inl (q.1, 8, .inl (M i9)))]) [1, 2, 3, 4, 5, 6, 7, 0, 8] rfl (by decide) rfl hP hD
  refine lv_aload_n hx hb d_X_clear_7 rfl (lv_at hl 0 rfl) ?_
  refine lv_aload_n hx hb d_X_clear_8 rfl (lv_at hl 0 rfl) ?_
  refine wz_get (v := .int (nI n)) (T := T_X) (N := 5) hx hb hts i_X hown hK hP 0 0 rfl rfl rfl 0 (by decide) (hts _ kw_210) rfl rfl d_X_clear_9 ?_
  have hQ := wz_split (n := 9) (gc := []) (gr := [xo_W q ax n (am 0) sa gl (as9 0), se_W q as9 n (am 0) (ag 0) (ab 0) (ac 0) (ak 0) (pz_fact n) rw bg sx ro ln wz, bl_W q ab (am 0) (ag 0) 0 (pz_fact n) f1 w1 e1 z1 y1 d1 m1 c1, bl_W q ac (am 0) (ag 0) 0 (pz_fact n) f2 w2 e2 z2 y2 d2 m2 c2, bl_W q ak (am 0) (ag 0) 6 (pz_fact n) f3 w3 e3 z3 y3 d3 m3 c3, gq_W q ag (am 0) (pz_fact n) (2 ^ b) (32 - b) rl st sl G.length, wz_rows 12 rl (fun i9 => .inl (q.1, pz_fact n, .inl (L i9))), mv_W q am n 0 rt fo, wz_rows 12 rt (fun i9 => .inl (q.1, 8, .inl (M i9)))]) [] [0, 1, 2, 3, 4, 5, 6, 7, 8] rfl (by decide) rfl rfl hP hD
  refine wz_calli (va_runS (As := [.int (nI n)]) (rest := [.ref ax]) ⟨hx, hb, hml, hown, hts⟩ (c_X_firstState l D q n hn _) (va_cwS 1 hts (wz_goodS kw_77 kw_78 kw_30 kw_79) rfl rfl rfl (by decide +kernel) ⟨Nat.le_of_ble_eq_true rfl, Nat.le_of_ble_eq_true rfl⟩) (wz_preS hN hK hQ wz_L_ok) rfl rfl hl.1 rfl (lv_room (Nat.le_of_ble_eq_true rfl)) d_X_clear_12 ⟨Nat.le_of_ble_eq_true rfl, Nat.le_of_ble_eq_true rfl⟩) hQ hS hA (fun v_12 gx H locs hp hP hD hS => ?_)
  obtain ⟨rfl, rfl⟩ := hp
  obtain ⟨hP, hD⟩ := wz_ord (n := 9) (gs' := [xo_W q ax n (am 0) sa gl (as9 0), se_W q as9 n (am 0) (ag 0) (ab 0) (ac 0) (ak 0) (pz_fact n) rw bg sx ro ln wz, bl_W q ab (am 0) (ag 0) 0 (pz_fact n) f1 w1 e1 z1 y1 d1 m1 c1, bl_W q ac (am 0) (ag 0) 0 (pz_fact n) f2 w2 e2 z2 y2 d2 m2 c2, bl_W q ak (am 0) (ag 0) 6 (pz_fact n) f3 w3 e3 z3 y3 d3 m3 c3, gq_W q ag (am 0) (pz_fact n) (2 ^ b) (32 - b) rl st sl G.length, wz_rows 12 rl (fun i9 => .inl (q.1, pz_fact n, .inl (L i9))), mv_W q am n 0 rt fo, wz_rows 12 rt (fun i9 => .inl (q.1, 8, .inl (M i9)))]) [0, 1, 2, 3, 4, 5, 6, 7, 8] rfl (by decide) rfl hP hD
  refine wz_put (gs' := [xo_W q ax n (am 0) (pz_first n) gl (as9 0), se_W q as9 n (am 0) (ag 0) (ab 0) (ac 0) (ak 0) (pz_fact n) rw bg sx ro ln wz, bl_W q ab (am 0) (ag 0) 0 (pz_fact n) f1 w1 e1 z1 y1 d1 m1 c1, bl_W q ac (am 0) (ag 0) 0 (pz_fact n) f2 w2 e2 z2 y2 d2 m2 c2, bl_W q ak (am 0) (ag 0) 6 (pz_fact n) f3 w3 e3 z3 y3 d3 m3 c3, gq_W q ag (am 0) (pz_fact n) (2 ^ b) (32 - b) rl st sl G.length, wz_rows 12 rl (fun i9 => .inl (q.1, pz_fact n, .inl (L i9))), mv_W q am n 0 rt fo, wz_rows 12 rt (fun i9 => .inl (q.1, 8, .inl (M i9)))]) (v := .int (nI (pz_first n))) (T := T_X) (N := 5) hx hb hts i_X t_X t_X_ok n_X hown hK hP hD hS 0 0 rfl rfl rfl 2 (by decide) (hts _ kw_212) rfl rfl (ty := t_X 2) (by decide +kernel) rfl rfl (Nat.le_of_ble_eq_true rfl) d_X_clear_15 rfl (fun H locs hP hD hS => ?_)
  refine lv_aload_n hx hb d_X_clear_18 rfl (lv_at hl 0 rfl) ?_
  refine lv_aload_n hx hb d_X_clear_19 rfl (lv_at hl 0 rfl) ?_
  refine wz_get (v := .int (nI (pz_first n))) (T := T_X) (N := 5) hx hb hts i_X hown hK hP 0 0 rfl rfl rfl 2 (by decide) (hts _ kw_212) rfl rfl d_X_clear_20 ?_
  refine wz_put (gs' := [xo_W q ax n (am 0) (pz_first n) (pz_first n) (as9 0), se_W q as9 n (am 0) (ag 0) (ab 0) (ac 0) (ak 0) (pz_fact n) rw bg sx ro ln wz, bl_W q ab (am 0) (ag 0) 0 (pz_fact n) f1 w1 e1 z1 y1 d1 m1 c1, bl_W q ac (am 0) (ag 0) 0 (pz_fact n) f2 w2 e2 z2 y2 d2 m2 c2, bl_W q ak (am 0) (ag 0) 6 (pz_fact n) f3 w3 e3 z3 y3 d3 m3 c3, gq_W q ag (am 0) (pz_fact n) (2 ^ b) (32 - b) rl st sl G.length, wz_rows 12 rl (fun i9 => .inl (q.1, pz_fact n, .inl (L i9))), mv_W q am n 0 rt fo, wz_rows 12 rt (fun i9 => .inl (q.1, 8, .inl (M i9)))]) (v := .int (nI (pz_first n))) (T := T_X) (N := 5) hx hb hts i_X t_X t_X_ok n_X hown hK hP hD hS 0 0 rfl rfl rfl 3 (by decide) (hts _ kw_213) rfl rfl (ty := t_X 3) (by decide +kernel) rfl rfl (Nat.le_of_ble_eq_true rfl) d_X_clear_23 rfl (fun H locs hP hD hS => ?_)
  refine lv_aload_n hx hb d_X_clear_26 rfl (lv_at hl 0 rfl) ?_
  have hQ := wz_split (n := 9) (gc := [xo_W q ax n (am 0) (pz_first n) (pz_first n) (as9 0), se_W q as9 n (am 0) (ag 0) (ab 0) (ac 0) (ak 0) (pz_fact n) rw bg sx ro ln wz]) (gr := [bl_W q ab (am 0) (ag 0) 0 (pz_fact n) f1 w1 e1 z1 y1 d1 m1 c1, bl_W q ac (am 0) (ag 0) 0 (pz_fact n) f2 w2 e2 z2 y2 d2 m2 c2, bl_W q ak (am 0) (ag 0) 6 (pz_fact n) f3 w3 e3 z3 y3 d3 m3 c3, gq_W q ag (am 0) (pz_fact n) (2 ^ b) (32 - b) rl st sl G.length, wz_rows 12 rl (fun i9 => .inl (q.1, pz_fact n, .inl (L i9))), mv_W q am n 0 rt fo, wz_rows 12 rt (fun i9 => .inl (q.1, 8, .inl (M i9)))]) [0, 1] [2, 3, 4, 5, 6, 7, 8] rfl (by decide) rfl rfl hP hD
  refine wz_callv (va_runV (As := []) (rest := []) ⟨hx, hb, hml, hown, hts⟩ (c_X_forgetAll l D q ax as9 n (am 0) (ag 0) (ab 0) (ac 0) (ak 0) (pz_fact n) (pz_first n) (pz_first n) rw bg sx ro ln wz _) (cwV 0 hts (wz_goodV kw_238 kw_240 kw_1 kw_30 kw_241) rfl rfl rfl (by decide +kernel) ⟨Nat.le_of_ble_eq_true rfl, Nat.le_of_ble_eq_true rfl⟩) (wz_preV (gi := 0) (k := 0) hN hK hQ wz_L_ok rfl rfl rfl) rfl rfl hl.1 rfl (lv_room (Nat.le_of_ble_eq_true rfl)) d_X_clear_27 ⟨Nat.le_of_ble_eq_true rfl, Nat.le_of_ble_eq_true rfl⟩) hQ hS hA (fun gx H locs hp hP hD hS => ?_)
  have hp : gx = _ := hp
  subst hp
  obtain ⟨hP, hD⟩ := wz_ord (n := 9) (gs' := [xo_W q ax n (am 0) (pz_first n) (pz_first n) (as9 0), se_W q as9 n (am 0) (ag 0) (ab 0) (ac 0) (ak 0) (pz_fact n) rw (nI 0) sx ro (-1) 0, bl_W q ab (am 0) (ag 0) 0 (pz_fact n) f1 w1 e1 z1 y1 d1 m1 c1, bl_W q ac (am 0) (ag 0) 0 (pz_fact n) f2 w2 e2 z2 y2 d2 m2 c2, bl_W q ak (am 0) (ag 0) 6 (pz_fact n) f3 w3 e3 z3 y3 d3 m3 c3, gq_W q ag (am 0) (pz_fact n) (2 ^ b) (32 - b) rl st sl G.length, wz_rows 12 rl (fun i9 => .inl (q.1, pz_fact n, .inl (L i9))), mv_W q am n 0 rt fo, wz_rows 12 rt (fun i9 => .inl (q.1, 8, .inl (M i9)))]) [0, 1, 2, 3, 4, 5, 6, 7, 8] rfl (by decide) rfl hP hD
  exact wz_vret hx hb hr hlocks hK hP hD hS d_X_clear_30 (cx_in ⟨⟨hn1, hn, (by omega), (pz_first_lt hn), (pz_first_lt hn), hb0, hb30, hM⟩, (fun o ho => absurd ho (by omega)), hgr, ⟨hw1, hw2, hw3⟩, Or.inl rfl, (⟨rfl, rfl⟩ : cx_f none n (-1) 0 rw)⟩)
def po_X_step (q : wz_Q) (ax n k : Nat) (sg tu : Nat → Nat → Nat) (od : Nat → Nat) (sa gl : Nat) (F : cx_F) (x b9 : Int32) : Int32 → wz_G → Prop := fun v w => cx q ax n k sg tu od sa gl F w ∧ match F with
  | none => v = -1
  | some (len, mv, tm, _) => ((¬ ∃ j, j < len ∧ x = nI j) ∧ v = -1) ∨ ∃ j, j < len ∧ x = nI j ∧ v = if b9 = 0 then nI (mv j) else nI (tm j)
set_option maxHeartbeats 4000000 in
set_option maxRecDepth 100000 in
/-- a step of the row found -/
theorem c_X_step (l : Launch) (D : va_G) (q : wz_Q) (ax n k : Nat) (sg tu : Nat → Nat → Nat) (od : Nat → Nat) (sa gl : Nat) (F : cx_F) (x b9 : Int32) (WW : wz_G) (hW : cx q ax n k sg tu od sa gl F WW) : wz_Mi l y_X_step ws_X_step ({ frames := 0, cells := 0, slots := 0, locals := 0 } : Room) D q ([.ref ax, .int x, .int b9] : List Value) WW (po_X_step q ax n k sg tu od sa gl F x b9) 0 0 := by
  obtain ⟨as9, ab, ac, ak, ag, am, b, rl, rt, fo, M, rw, bg, sx, ro, ln, wz, G, st, sl, L, f1, w1, e1, z1, y1, d1, m1, c1, f2, w2, e2, z2, y2, d2, m2, c2, f3, w3, e3, z3, y3, d3, m3, c3, rfl, ⟨hn1, hn, hk, hsa, hgl, hb0, hb30, hM⟩, hmv, hgr, ⟨hw1, hw2, hw3⟩, hbg, hF⟩ := hW
  have hfl := pz_fact_le hn
  intro sz9
  refine wz_enter (cc := b_X_step) (maxL := 4) (ret := (some .int)) (Qc := fun A => (va_Qi (po_X_step q ax n k sg tu od sa gl F x b9) (wz_At D q A) A)) (by decide) (Nat.le_of_ble_eq_true rfl) ?_
  intro p e s m below meth c A ls C hP hD hS hl
  obtain ⟨hx, hb, hr, hml, hlocks, hown, hts, hN, hK, hA, hnm⟩ := C
  have hown : s.vm.findClass "TwoEndSearch" = some m.cls := hown
  have hl : lv_has ls 4 [(0, .ref ax), (1, .int x), (2, .int b9)] := hl
  cases F with
  | none =>
    obtain ⟨rfl, rfl⟩ := hF
    refine lv_iload_n hx hb d_X_step_0 rfl (lv_at hl 1 rfl) ?_
    refine lv_if_lt (tgt := 15) hx hb d_X_step_1 (by decide) (fun hc => ?_) (fun hc => ?_)
    · skip
      refine lv_iconst (v := (-1)) hx hb d_X_step_15 (by decide) ?_
      exact wz_iret hx hb hr hlocks hK hP hD hS d_X_step_16 ⟨(cx_in ⟨⟨hn1, hn, hk, hsa, hgl, hb0, hb30, hM⟩, hmv, hgr, ⟨hw1, hw2, hw3⟩, hbg, (⟨rfl, rfl⟩ : cx_f none n (-1) 0 rw)⟩), rfl⟩
    · skip
      refine lv_iload_n hx hb d_X_step_4 rfl (lv_at hl 1 rfl) ?_
      refine lv_aload_n hx hb d_X_step_5 rfl (lv_at hl 0 rfl) ?_
      refine wz_get (v := .ref (as9 0)) (T := T_X) (N := 5) hx hb hts i_X hown hK hP 0 0 rfl rfl rfl 4 (by decide) (hts _ kw_214) rfl rfl d_X_step_6 ?_
      refine wz_getN (v := .int (-1)) (T := T_S) (N := 12) hx hb hts i_S hown hK hP 1 0 rfl rfl rfl 10 (by decide) (hN.1 _ (List.mem_of_getElem? (i := 16) rfl)) rfl rfl d_X_step_9 ?_
      refine lv_icmp_lt (tgt := 17) hx hb d_X_step_12 (by decide) (fun hc2 => ?_) (fun hc2 => ?_)
      · skip
        exact absurd hc2 (by
          intro q
          have h1 := Int32.lt_iff_toInt_lt.mp q
          have h2 : ¬ x.toInt < (0 : Int32).toInt := fun q2 => hc (Int32.lt_iff_toInt_lt.mpr q2)
          have h3 : (0 : Int32).toInt = 0 := by decide
          have h4 : (-1 : Int32).toInt = -1 := by decide
          omega)
      · skip
        refine lv_iconst (v := (-1)) hx hb d_X_step_15 (by decide) ?_
        exact wz_iret hx hb hr hlocks hK hP hD hS d_X_step_16 ⟨(cx_in ⟨⟨hn1, hn, hk, hsa, hgl, hb0, hb30, hM⟩, hmv, hgr, ⟨hw1, hw2, hw3⟩, hbg, (⟨rfl, rfl⟩ : cx_f none n (-1) 0 rw)⟩), rfl⟩
  | some F9 =>
    obtain ⟨len, mv, tm, w9⟩ := F9
    obtain ⟨rfl, hlen, rfl, hrow⟩ := hF
    refine lv_iload_n hx hb d_X_step_0 rfl (lv_at hl 1 rfl) ?_
    refine lv_if_lt (tgt := 15) hx hb d_X_step_1 (by decide) (fun hc => ?_) (fun hc => ?_)
    · skip
      refine lv_iconst (v := (-1)) hx hb d_X_step_15 (by decide) ?_
      exact wz_iret hx hb hr hlocks hK hP hD hS d_X_step_16 ⟨(cx_in ⟨⟨hn1, hn, hk, hsa, hgl, hb0, hb30, hM⟩, hmv, hgr, ⟨hw1, hw2, hw3⟩, hbg, (⟨rfl, hlen, rfl, hrow⟩ : cx_f (some (len, mv, tm, wz)) n (nI len) wz rw)⟩), Or.inl ⟨fun ⟨j, hj, e0⟩ => nI_pos (by omega) (e0 ▸ hc), rfl⟩⟩
    · skip
      obtain ⟨j, hj, rfl⟩ := nI_of hc
      refine lv_iload_n hx hb d_X_step_4 rfl (lv_at hl 1 rfl) ?_
      refine lv_aload_n hx hb d_X_step_5 rfl (lv_at hl 0 rfl) ?_
      refine wz_get (v := .ref (as9 0)) (T := T_X) (N := 5) hx hb hts i_X hown hK hP 0 0 rfl rfl rfl 4 (by decide) (hts _ kw_214) rfl rfl d_X_step_6 ?_
      refine wz_getN (v := .int (nI len)) (T := T_S) (N := 12) hx hb hts i_S hown hK hP 1 0 rfl rfl rfl 10 (by decide) (hN.1 _ (List.mem_of_getElem? (i := 16) rfl)) rfl rfl d_X_step_9 ?_
      refine wz_lt (tgt := 17) hx hb d_X_step_12 (by decide) (by omega) (by omega) (fun hc2 => ?_) (fun hc2 => ?_)
      · skip
        obtain ⟨h1, h2, h3⟩ := hrow j hc2
        refine lv_aload_n hx hb d_X_step_17 rfl (lv_at hl 0 rfl) ?_
        refine wz_get (v := .ref (as9 0)) (T := T_X) (N := 5) hx hb hts i_X hown hK hP 0 0 rfl rfl rfl 4 (by decide) (hts _ kw_214) rfl rfl d_X_step_18 ?_
        refine wz_getN (v := .ref (as9 1)) (T := T_S) (N := 12) hx hb hts i_S hown hK hP 1 0 rfl rfl rfl 6 (by decide) (hN.1 _ (List.mem_of_getElem? (i := 14) rfl)) rfl rfl d_X_step_21 ?_
        refine lv_iload_n hx hb d_X_step_24 rfl (lv_at hl 1 rfl) ?_
        refine wz_iald hx hb hK hP 1 1 (j := j) rfl rfl (by omega) (by omega) d_X_step_25 ?_
        refine wz_topi (y := nI (mv j * 15 + tm j)) h3 ?_
        refine lv_istore_n (lv' := [(3, .int (nI (mv j * 15 + tm j))), (0, .ref ax), (1, .int (nI j)), (2, .int b9)]) hx hb d_X_step_26 rfl hl (by decide) rfl (fun ls hl => ?_)
        refine lv_iload_n hx hb d_X_step_27 rfl (lv_at hl 3 rfl) ?_
        refine lv_if_eq (tgt := 38) hx hb d_X_step_28 (by decide) (fun hc3 => ?_) (fun hc3 => ?_)
        · skip
          refine lv_iload_n hx hb d_X_step_38 rfl (lv_at hl 0 rfl) ?_
          refine lv_bipush (v := nI 15) hx hb d_X_step_39 (by decide) ?_
          refine lv_idiv hx hb d_X_step_41 (by decide) ?_
          refine wz_topi (y := nI (mv j)) ((pk_div (by omega) (by decide) (by decide)).trans (congrArg nI (by omega))) ?_
          exact wz_iret hx hb hr hlocks hK hP hD hS d_X_step_42 ⟨(cx_in ⟨⟨hn1, hn, hk, hsa, hgl, hb0, hb30, hM⟩, hmv, hgr, ⟨hw1, hw2, hw3⟩, hbg, (⟨rfl, hlen, rfl, hrow⟩ : cx_f (some (len, mv, tm, wz)) n (nI len) wz rw)⟩), Or.inr ⟨j, hc2, rfl, (if_pos hc3).symm⟩⟩
        · skip
          refine lv_iload_n hx hb d_X_step_31 rfl (lv_at hl 0 rfl) ?_
          refine lv_bipush (v := nI 15) hx hb d_X_step_32 (by decide) ?_
          refine lv_irem hx hb d_X_step_34 (by decide) ?_
          refine wz_topi (y := nI (tm j)) ((pk_rem (by omega) (by decide) (by decide)).trans (congrArg nI (by omega))) ?_
          refine lv_goto (tgt := 42) hx hb d_X_step_35 (by decide) ?_
          exact wz_iret hx hb hr hlocks hK hP hD hS d_X_step_42 ⟨(cx_in ⟨⟨hn1, hn, hk, hsa, hgl, hb0, hb30, hM⟩, hmv, hgr, ⟨hw1, hw2, hw3⟩, hbg, (⟨rfl, hlen, rfl, hrow⟩ : cx_f (some (len, mv, tm, wz)) n (nI len) wz rw)⟩), Or.inr ⟨j, hc2, rfl, (if_neg hc3).symm⟩⟩
      · skip
        refine lv_iconst (v := (-1)) hx hb d_X_step_15 (by decide) ?_
        exact wz_iret hx hb hr hlocks hK hP hD hS d_X_step_16 ⟨(cx_in ⟨⟨hn1, hn, hk, hsa, hgl, hb0, hb30, hM⟩, hmv, hgr, ⟨hw1, hw2, hw3⟩, hbg, (⟨rfl, hlen, rfl, hrow⟩ : cx_f (some (len, mv, tm, wz)) n (nI len) wz rw)⟩), Or.inl ⟨fun ⟨j2, hj2, e0⟩ => by have := (nI_eq (by omega) (by omega)).mp e0; omega, rfl⟩⟩
def po_X_ways (q : wz_Q) (ax n k : Nat) (sg tu : Nat → Nat → Nat) (od : Nat → Nat) (sa gl : Nat) (F : cx_F) : Int64 → wz_G → Prop := fun v w => cx q ax n k sg tu od sa gl F w ∧ v = match F with
  | none => 0
  | some (_, _, _, w9) => w9
set_option maxHeartbeats 4000000 in
set_option maxRecDepth 100000 in
/-- how many rows -/
theorem c_X_ways (l : Launch) (D : va_G) (q : wz_Q) (ax n k : Nat) (sg tu : Nat → Nat → Nat) (od : Nat → Nat) (sa gl : Nat) (F : cx_F) (WW : wz_G) (hW : cx q ax n k sg tu od sa gl F WW) : wz_Ml l y_X_ways ws_X_ways ({ frames := 0, cells := 0, slots := 0, locals := 0 } : Room) D q ([.ref ax] : List Value) WW (po_X_ways q ax n k sg tu od sa gl F) 0 0 := by
  obtain ⟨as9, ab, ac, ak, ag, am, b, rl, rt, fo, M, rw, bg, sx, ro, ln, wz, G, st, sl, L, f1, w1, e1, z1, y1, d1, m1, c1, f2, w2, e2, z2, y2, d2, m2, c2, f3, w3, e3, z3, y3, d3, m3, c3, rfl, ⟨hn1, hn, hk, hsa, hgl, hb0, hb30, hM⟩, hmv, hgr, ⟨hw1, hw2, hw3⟩, hbg, hF⟩ := hW
  have hfl := pz_fact_le hn
  intro sz9
  refine wz_enter (cc := b_X_ways) (maxL := 1) (ret := (some .long)) (Qc := fun A => (va_Ql (po_X_ways q ax n k sg tu od sa gl F) (wz_At D q A) A)) (by decide) (Nat.le_of_ble_eq_true rfl) ?_
  intro p e s m below meth c A ls C hP hD hS hl
  obtain ⟨hx, hb, hr, hml, hlocks, hown, hts, hN, hK, hA, hnm⟩ := C
  have hown : s.vm.findClass "TwoEndSearch" = some m.cls := hown
  have hl : lv_has ls 1 [(0, .ref ax)] := hl
  refine lv_aload_n hx hb d_X_ways_0 rfl (lv_at hl 0 rfl) ?_
  refine wz_get (v := .ref (as9 0)) (T := T_X) (N := 5) hx hb hts i_X hown hK hP 0 0 rfl rfl rfl 4 (by decide) (hts _ kw_214) rfl rfl d_X_ways_1 ?_
  refine wz_getN (v := .long wz) (T := T_S) (N := 12) hx hb hts i_S hown hK hP 1 0 rfl rfl rfl 11 (by decide) (hN.1 _ (List.mem_of_getElem? (i := 17) rfl)) rfl rfl d_X_ways_4 ?_
  exact wz_lret hx hb hr hlocks hK hP hD hS d_X_ways_7 ⟨(cx_in ⟨⟨hn1, hn, hk, hsa, hgl, hb0, hb30, hM⟩, hmv, hgr, ⟨hw1, hw2, hw3⟩, hbg, hF⟩), by
    cases F with
    | none => exact hF.2
    | some F9 => exact hF.2.2.1⟩
