theorem d_S_leastStep_0 : decode b_S_leastStep 0 = .ok (.iconst 0, 1) := by decide +kernel
theorem d_S_leastStep_1 : decode b_S_leastStep 1 = .ok (.istore_n 3, 1) := by decide +kernel
theorem d_S_leastStep_2 : decode b_S_leastStep 2 = .ok (.iload_n 3, 1) := by decide +kernel
theorem d_S_leastStep_3 : decode b_S_leastStep 3 = .ok (.aload_n 0, 1) := by decide +kernel
theorem d_S_leastStep_4 : decode b_S_leastStep 4 = .ok (.getfield 18, 3) := by decide +kernel
theorem d_S_leastStep_7 : decode b_S_leastStep 7 = .ok (.getfield 137, 3) := by decide +kernel
theorem d_S_leastStep_10 : decode b_S_leastStep 10 = .ok (.if_icmp .ge 79, 3) := by decide +kernel
theorem d_S_leastStep_13 : decode b_S_leastStep 13 = .ok (.aload_n 0, 1) := by decide +kernel
theorem d_S_leastStep_14 : decode b_S_leastStep 14 = .ok (.getfield 18, 3) := by decide +kernel
theorem d_S_leastStep_17 : decode b_S_leastStep 17 = .ok (.aload_n 0, 1) := by decide +kernel
theorem d_S_leastStep_18 : decode b_S_leastStep 18 = .ok (.getfield 47, 3) := by decide +kernel
theorem d_S_leastStep_21 : decode b_S_leastStep 21 = .ok (.getfield 146, 3) := by decide +kernel
theorem d_S_leastStep_24 : decode b_S_leastStep 24 = .ok (.iload_n 3, 1) := by decide +kernel
theorem d_S_leastStep_25 : decode b_S_leastStep 25 = .ok (.invokevirtual 149, 3) := by decide +kernel
theorem d_S_leastStep_28 : decode b_S_leastStep 28 = .ok (.istore 4, 2) := by decide +kernel
theorem d_S_leastStep_30 : decode b_S_leastStep 30 = .ok (.iload_n 1, 1) := by decide +kernel
theorem d_S_leastStep_31 : decode b_S_leastStep 31 = .ok (.istore 5, 2) := by decide +kernel
theorem d_S_leastStep_33 : decode b_S_leastStep 33 = .ok (.iconst 1, 1) := by decide +kernel
theorem d_S_leastStep_34 : decode b_S_leastStep 34 = .ok (.istore 6, 2) := by decide +kernel
theorem d_S_leastStep_36 : decode b_S_leastStep 36 = .ok (.iload 6, 2) := by decide +kernel
theorem d_S_leastStep_38 : decode b_S_leastStep 38 = .ok (.iload 4, 2) := by decide +kernel
theorem d_S_leastStep_40 : decode b_S_leastStep 40 = .ok (.if_icmp .gt 43, 3) := by decide +kernel
theorem d_S_leastStep_43 : decode b_S_leastStep 43 = .ok (.aload_n 0, 1) := by decide +kernel
theorem d_S_leastStep_44 : decode b_S_leastStep 44 = .ok (.getfield 31, 3) := by decide +kernel
theorem d_S_leastStep_47 : decode b_S_leastStep 47 = .ok (.iload_n 3, 1) := by decide +kernel
theorem d_S_leastStep_48 : decode b_S_leastStep 48 = .ok (.iload 5, 2) := by decide +kernel
theorem d_S_leastStep_50 : decode b_S_leastStep 50 = .ok (.invokevirtual 152, 3) := by decide +kernel
theorem d_S_leastStep_53 : decode b_S_leastStep 53 = .ok (.istore 5, 2) := by decide +kernel
theorem d_S_leastStep_55 : decode b_S_leastStep 55 = .ok (.aload_n 0, 1) := by decide +kernel
theorem d_S_leastStep_56 : decode b_S_leastStep 56 = .ok (.getfield 47, 3) := by decide +kernel
theorem d_S_leastStep_59 : decode b_S_leastStep 59 = .ok (.getfield 108, 3) := by decide +kernel
theorem d_S_leastStep_62 : decode b_S_leastStep 62 = .ok (.iload 5, 2) := by decide +kernel
theorem d_S_leastStep_64 : decode b_S_leastStep 64 = .ok (.iaload, 1) := by decide +kernel
theorem d_S_leastStep_65 : decode b_S_leastStep 65 = .ok (.iload_n 2, 1) := by decide +kernel
theorem d_S_leastStep_66 : decode b_S_leastStep 66 = .ok (.if_icmp .ne 11, 3) := by decide +kernel
theorem d_S_leastStep_69 : decode b_S_leastStep 69 = .ok (.iload_n 3, 1) := by decide +kernel
theorem d_S_leastStep_70 : decode b_S_leastStep 70 = .ok (.bipush 15, 2) := by decide +kernel
theorem d_S_leastStep_72 : decode b_S_leastStep 72 = .ok (.imul, 1) := by decide +kernel
theorem d_S_leastStep_73 : decode b_S_leastStep 73 = .ok (.iload 6, 2) := by decide +kernel
theorem d_S_leastStep_75 : decode b_S_leastStep 75 = .ok (.iadd, 1) := by decide +kernel
theorem d_S_leastStep_76 : decode b_S_leastStep 76 = .ok (.ireturn, 1) := by decide +kernel
theorem d_S_leastStep_77 : decode b_S_leastStep 77 = .ok (.iinc 6 1, 3) := by decide +kernel
theorem d_S_leastStep_80 : decode b_S_leastStep 80 = .ok (.goto (-44), 3) := by decide +kernel
theorem d_S_leastStep_83 : decode b_S_leastStep 83 = .ok (.iinc 3 1, 3) := by decide +kernel
theorem d_S_leastStep_86 : decode b_S_leastStep 86 = .ok (.goto (-84), 3) := by decide +kernel
theorem d_S_leastStep_89 : decode b_S_leastStep 89 = .ok (.iconst 0, 1) := by decide +kernel
theorem d_S_leastStep_90 : decode b_S_leastStep 90 = .ok (.ireturn, 1) := by decide +kernel
theorem d_S_afterStep_0 : decode b_S_afterStep 0 = .ok (.iload_n 1, 1) := by decide +kernel
theorem d_S_afterStep_1 : decode b_S_afterStep 1 = .ok (.istore_n 3, 1) := by decide +kernel
theorem d_S_afterStep_2 : decode b_S_afterStep 2 = .ok (.iconst 0, 1) := by decide +kernel
theorem d_S_afterStep_3 : decode b_S_afterStep 3 = .ok (.istore 4, 2) := by decide +kernel
theorem d_S_afterStep_5 : decode b_S_afterStep 5 = .ok (.iload 4, 2) := by decide +kernel
theorem d_S_afterStep_7 : decode b_S_afterStep 7 = .ok (.iload_n 2, 1) := by decide +kernel
theorem d_S_afterStep_8 : decode b_S_afterStep 8 = .ok (.bipush 15, 2) := by decide +kernel
theorem d_S_afterStep_10 : decode b_S_afterStep 10 = .ok (.irem, 1) := by decide +kernel
theorem d_S_afterStep_11 : decode b_S_afterStep 11 = .ok (.if_icmp .ge 22, 3) := by decide +kernel
theorem d_S_afterStep_14 : decode b_S_afterStep 14 = .ok (.aload_n 0, 1) := by decide +kernel
theorem d_S_afterStep_15 : decode b_S_afterStep 15 = .ok (.getfield 31, 3) := by decide +kernel
theorem d_S_afterStep_18 : decode b_S_afterStep 18 = .ok (.iload_n 2, 1) := by decide +kernel
theorem d_S_afterStep_19 : decode b_S_afterStep 19 = .ok (.bipush 15, 2) := by decide +kernel
theorem d_S_afterStep_21 : decode b_S_afterStep 21 = .ok (.idiv, 1) := by decide +kernel
theorem d_S_afterStep_22 : decode b_S_afterStep 22 = .ok (.iload_n 3, 1) := by decide +kernel
theorem d_S_afterStep_23 : decode b_S_afterStep 23 = .ok (.invokevirtual 152, 3) := by decide +kernel
theorem d_S_afterStep_26 : decode b_S_afterStep 26 = .ok (.istore_n 3, 1) := by decide +kernel
theorem d_S_afterStep_27 : decode b_S_afterStep 27 = .ok (.iinc 4 1, 3) := by decide +kernel
theorem d_S_afterStep_30 : decode b_S_afterStep 30 = .ok (.goto (-25), 3) := by decide +kernel
theorem d_S_afterStep_33 : decode b_S_afterStep 33 = .ok (.iload_n 3, 1) := by decide +kernel
theorem d_S_afterStep_34 : decode b_S_afterStep 34 = .ok (.ireturn, 1) := by decide +kernel
theorem d_S_walkLeastRow_0 : decode b_S_walkLeastRow 0 = .ok (.aload_n 0, 1) := by decide +kernel
theorem d_S_walkLeastRow_1 : decode b_S_walkLeastRow 1 = .ok (.getfield 67, 3) := by decide +kernel
theorem d_S_walkLeastRow_4 : decode b_S_walkLeastRow 4 = .ok (.istore_n 1, 1) := by decide +kernel
theorem d_S_walkLeastRow_5 : decode b_S_walkLeastRow 5 = .ok (.iconst 0, 1) := by decide +kernel
theorem d_S_walkLeastRow_6 : decode b_S_walkLeastRow 6 = .ok (.istore_n 2, 1) := by decide +kernel
theorem d_S_walkLeastRow_7 : decode b_S_walkLeastRow 7 = .ok (.iload_n 2, 1) := by decide +kernel
theorem d_S_walkLeastRow_8 : decode b_S_walkLeastRow 8 = .ok (.aload_n 0, 1) := by decide +kernel
theorem d_S_walkLeastRow_9 : decode b_S_walkLeastRow 9 = .ok (.getfield 9, 3) := by decide +kernel
theorem d_S_walkLeastRow_12 : decode b_S_walkLeastRow 12 = .ok (.if_icmp .ge 49, 3) := by decide +kernel
theorem d_S_walkLeastRow_15 : decode b_S_walkLeastRow 15 = .ok (.iload_n 2, 1) := by decide +kernel
theorem d_S_walkLeastRow_16 : decode b_S_walkLeastRow 16 = .ok (.aload_n 0, 1) := by decide +kernel
theorem d_S_walkLeastRow_17 : decode b_S_walkLeastRow 17 = .ok (.getfield 50, 3) := by decide +kernel
theorem d_S_walkLeastRow_20 : decode b_S_walkLeastRow 20 = .ok (.arraylength, 1) := by decide +kernel
theorem d_S_walkLeastRow_21 : decode b_S_walkLeastRow 21 = .ok (.if_icmp .ge 40, 3) := by decide +kernel
theorem d_S_walkLeastRow_24 : decode b_S_walkLeastRow 24 = .ok (.aload_n 0, 1) := by decide +kernel
theorem d_S_walkLeastRow_25 : decode b_S_walkLeastRow 25 = .ok (.getfield 50, 3) := by decide +kernel
theorem d_S_walkLeastRow_28 : decode b_S_walkLeastRow 28 = .ok (.iload_n 2, 1) := by decide +kernel
theorem d_S_walkLeastRow_29 : decode b_S_walkLeastRow 29 = .ok (.aload_n 0, 1) := by decide +kernel
theorem d_S_walkLeastRow_30 : decode b_S_walkLeastRow 30 = .ok (.iload_n 1, 1) := by decide +kernel
theorem d_S_walkLeastRow_31 : decode b_S_walkLeastRow 31 = .ok (.aload_n 0, 1) := by decide +kernel
theorem d_S_walkLeastRow_32 : decode b_S_walkLeastRow 32 = .ok (.getfield 9, 3) := by decide +kernel
theorem d_S_walkLeastRow_35 : decode b_S_walkLeastRow 35 = .ok (.iload_n 2, 1) := by decide +kernel
theorem d_S_walkLeastRow_36 : decode b_S_walkLeastRow 36 = .ok (.isub, 1) := by decide +kernel
theorem d_S_walkLeastRow_37 : decode b_S_walkLeastRow 37 = .ok (.iconst 1, 1) := by decide +kernel
theorem d_S_walkLeastRow_38 : decode b_S_walkLeastRow 38 = .ok (.isub, 1) := by decide +kernel
theorem d_S_walkLeastRow_39 : decode b_S_walkLeastRow 39 = .ok (.invokevirtual 158, 3) := by decide +kernel
theorem d_S_walkLeastRow_42 : decode b_S_walkLeastRow 42 = .ok (.iastore, 1) := by decide +kernel
theorem d_S_walkLeastRow_43 : decode b_S_walkLeastRow 43 = .ok (.aload_n 0, 1) := by decide +kernel
theorem d_S_walkLeastRow_44 : decode b_S_walkLeastRow 44 = .ok (.iload_n 1, 1) := by decide +kernel
theorem d_S_walkLeastRow_45 : decode b_S_walkLeastRow 45 = .ok (.aload_n 0, 1) := by decide +kernel
theorem d_S_walkLeastRow_46 : decode b_S_walkLeastRow 46 = .ok (.getfield 50, 3) := by decide +kernel
theorem d_S_walkLeastRow_49 : decode b_S_walkLeastRow 49 = .ok (.iload_n 2, 1) := by decide +kernel
theorem d_S_walkLeastRow_50 : decode b_S_walkLeastRow 50 = .ok (.iaload, 1) := by decide +kernel
theorem d_S_walkLeastRow_51 : decode b_S_walkLeastRow 51 = .ok (.invokevirtual 161, 3) := by decide +kernel
theorem d_S_walkLeastRow_54 : decode b_S_walkLeastRow 54 = .ok (.istore_n 1, 1) := by decide +kernel
theorem d_S_walkLeastRow_55 : decode b_S_walkLeastRow 55 = .ok (.iinc 2 1, 3) := by decide +kernel
theorem d_S_walkLeastRow_58 : decode b_S_walkLeastRow 58 = .ok (.goto (-51), 3) := by decide +kernel
theorem d_S_walkLeastRow_61 : decode b_S_walkLeastRow 61 = .ok (.return_, 1) := by decide +kernel
theorem kw_13 : (Cond.selects "TwoEndSearch$Search" ⟨"TwoEndSearch$Search", "leastStep", "(II)I"⟩ ⟨"TwoEndSearch$Search", "leastStep", "(II)I"⟩ : Cond) ∈ bigW := bigW_of 13 (by decide +kernel) (by decide +kernel)
theorem kw_14 : (Cond.selects "TwoEndSearch$Search" ⟨"TwoEndSearch$Search", "afterStep", "(II)I"⟩ ⟨"TwoEndSearch$Search", "afterStep", "(II)I"⟩ : Cond) ∈ bigW := bigW_of 14 (by decide +kernel) (by decide +kernel)
theorem kw_180 : (Cond.fieldLink "TwoEndSearch$Search" 67 "TwoEndSearch$Search" "root" "I" : Cond) ∈ bigW := bigW_of 180 (by decide +kernel) (by decide +kernel)
theorem kw_388 : (Cond.methodLink "TwoEndSearch$Search" 158 ⟨"TwoEndSearch$Search", "leastStep", "(II)I"⟩ : Cond) ∈ bigW := bigW_of 388 (by decide +kernel) (by decide +kernel)
theorem kw_390 : (Cond.instanceMethod ⟨"TwoEndSearch$Search", "leastStep", "(II)I"⟩ : Cond) ∈ bigW := bigW_of 390 (by decide +kernel) (by decide +kernel)
theorem kw_391 : (Cond.code ⟨"TwoEndSearch$Search", "leastStep", "(II)I"⟩ prog_5_method_11_code 7 (some .int) : Cond) ∈ bigW := bigW_of 391 (by decide +kernel) (by decide +kernel)
theorem kw_392 : (Cond.methodLink "TwoEndSearch$Search" 161 ⟨"TwoEndSearch$Search", "afterStep", "(II)I"⟩ : Cond) ∈ bigW := bigW_of 392 (by decide +kernel) (by decide +kernel)
theorem kw_394 : (Cond.instanceMethod ⟨"TwoEndSearch$Search", "afterStep", "(II)I"⟩ : Cond) ∈ bigW := bigW_of 394 (by decide +kernel) (by decide +kernel)
theorem kw_395 : (Cond.code ⟨"TwoEndSearch$Search", "afterStep", "(II)I"⟩ prog_5_method_12_code 5 (some .int) : Cond) ∈ bigW := bigW_of 395 (by decide +kernel) (by decide +kernel)
def po_S_leastStep (q : wz_Q) (as9 ak ag am : Nat → Nat) (n b k : Nat) (rl rt : Nat → Nat) (fo : Nat → Int32) (M : Nat → Nat → Int32) (sg tu : Nat → Nat → Nat) (od : Nat → Nat) (a0 r1 r2 : Nat) (rw : Nat → Int32) (bg : Int32) (sx ro : Nat) (ln : Int32) (wz : Int64) (G : List Nat) (st sl : Nat → Int32) (L : Nat → Nat → Int32) (T : pz_S) (fk : Nat → Int32) (wk : Nat → Int64) (rk : Nat → Int32) (lk dk : Nat) (me ck : Int32) (x ix lf : Nat) : Int32 → wz_G → Prop := fun v w => ∃ (G' : List Nat) (st' sl' : Nat → Int32) (L' : Nat → Nat → Int32) (m t : Nat), w = [se_W q as9 n (am 0) (ag 0) r1 r2 (ak 0) (pz_fact n) rw bg sx ro ln wz, bl_W q ak (am 0) (ag 0) 6 (pz_fact n) fk wk rk T.1.length lk dk me ck, gq_W q ag (am 0) (pz_fact n) (2 ^ b) (32 - b) rl st' sl' G'.length, wz_rows 12 rl (fun i9 => .inl (q.1, pz_fact n, .inl (L' i9))), mv_W q am n k rt fo, wz_rows 12 rt (fun i9 => .inl (q.1, 8, .inl (M i9)))] ∧ (∃ Nw, G' = G ++ Nw) ∧ gq_ok n a0 b k sg tu G' st' sl' L' ∧ bl_ok (pz_fact n) G' T fk wk rk ∧ v = nI (m * 15 + t) ∧ pz_fst k (bl_mt me od) (fun m9 t9 => T.2.1 (pz_it (bl_g n 0 sg tu m9) t9 x) = some lf) m t
set_option maxHeartbeats 4000000 in
set_option maxRecDepth 100000 in
/-- the first step that leads so near to the goal -/
theorem c_S_leastStep (l : Launch) (D : va_G) (q : wz_Q) (as9 ak ag am : Nat → Nat) (n b k : Nat) (rl rt : Nat → Nat) (fo : Nat → Int32) (M : Nat → Nat → Int32) (sg tu : Nat → Nat → Nat) (od : Nat → Nat) (a0 r1 r2 : Nat) (rw : Nat → Int32) (bg : Int32) (sx ro : Nat) (ln : Int32) (wz : Int64) (G : List Nat) (st sl : Nat → Int32) (L : Nat → Nat → Int32) (T : pz_S) (fk : Nat → Int32) (wk : Nat → Int64) (rk : Nat → Int32) (lk dk : Nat) (me ck : Int32) (x ix lf : Nat) (hn : n ≤ 8) (hb0 : 0 < b) (hb30 : b ≤ 30) (hM : pz_fact n < 2 ^ b) (hk : k ≤ 6) (hmv : mv_ok n k fo M sg tu od) (hok : gq_ok n a0 b k sg tu G st sl L) (hblT : bl_ok (pz_fact n) G T fk wk rk) (hix : G[ix]? = some x) (hlt : ∀ y e, T.2.1 y = some e → e < 2 ^ 30) (hlf : lf < 2 ^ 30) (hex : ∃ m t, m < k ∧ 0 < t ∧ t ≤ bl_mt me od m ∧ T.2.1 (pz_it (bl_g n 0 sg tu m) t x) = some lf) : wz_Mi l y_S_leastStep ws_S_leastStep ({ frames := 3, cells := 0, slots := 0, locals := 72 } : Room) D q ([.ref (as9 0), .int (nI ix), .int (nI lf)] : List Value) [se_W q as9 n (am 0) (ag 0) r1 r2 (ak 0) (pz_fact n) rw bg sx ro ln wz, bl_W q ak (am 0) (ag 0) 6 (pz_fact n) fk wk rk T.1.length lk dk me ck, gq_W q ag (am 0) (pz_fact n) (2 ^ b) (32 - b) rl st sl G.length, wz_rows 12 rl (fun i9 => .inl (q.1, pz_fact n, .inl (L i9))), mv_W q am n k rt fo, wz_rows 12 rt (fun i9 => .inl (q.1, 8, .inl (M i9)))] (po_S_leastStep q as9 ak ag am n b k rl rt fo M sg tu od a0 r1 r2 rw bg sx ro ln wz G st sl L T fk wk rk lk dk me ck x ix lf) 0 0 := by
  intro sz9
  refine wz_enter (cc := b_S_leastStep) (maxL := 7) (ret := (some .int)) (Qc := fun A => (va_Qi (po_S_leastStep q as9 ak ag am n b k rl rt fo M sg tu od a0 r1 r2 rw bg sx ro ln wz G st sl L T fk wk rk lk dk me ck x ix lf) (wz_At D q A) A)) (by decide) (Nat.le_of_ble_eq_true rfl) ?_
  intro p e s m below meth c A ls C hP hD hS hl
  obtain ⟨hx, hb, hr, hml, hlocks, hown, hts, hN, hK, hA, hnm⟩ := C
  have hown : s.vm.findClass "TwoEndSearch$Search" = some m.cls := hown
  have hl : lv_has ls 7 [(0, .ref (as9 0)), (1, .int (nI ix)), (2, .int (nI lf))] := hl
  have hfl := pz_fact_le hn
  have hGl := gq_len hok
  have hixl := (List.getElem?_eq_some_iff.mp hix).1
  refine lv_iconst (v := nI 0) hx hb d_S_leastStep_0 (by decide) ?_
  refine lv_istore_n (lv' := [(3, .int (nI 0)), (0, .ref (as9 0)), (1, .int (nI ix)), (2, .int (nI lf))]) hx hb d_S_leastStep_1 rfl hl (by decide) rfl (fun ls hl => ?_)
  have outer : ∀ (d : Nat) (o : Nat) (G1 : List Nat) (st1 sl1 : Nat → Int32) (L1 : Nat → Nat → Int32), o ≤ k → k + 1 ≤ o + d → (∃ Nw, G1 = G ++ Nw) → gq_ok n a0 b k sg tu G1 st1 sl1 L1 → bl_ok (pz_fact n) G1 T fk wk rk → (∀ m9 t9, m9 < o → 0 < t9 → t9 ≤ bl_mt me od m9 → T.2.1 (pz_it (bl_g n 0 sg tu m9) t9 x) ≠ some lf) → ∀ (H : Heap) (locs : List Loc) (ls : Array Slot), va_P D vwCl ([se_W q as9 n (am 0) (ag 0) r1 r2 (ak 0) (pz_fact n) rw bg sx ro ln wz, bl_W q ak (am 0) (ag 0) 6 (pz_fact n) fk wk rk T.1.length lk dk me ck, gq_W q ag (am 0) (pz_fact n) (2 ^ b) (32 - b) rl st1 sl1 G1.length, wz_rows 12 rl (fun i9 => .inl (q.1, pz_fact n, .inl (L1 i9))), mv_W q am n k rt fo, wz_rows 12 rt (fun i9 => .inl (q.1, 8, .inl (M i9)))] : wz_G).flatten H → va_D A ([se_W q as9 n (am 0) (ag 0) r1 r2 (ak 0) (pz_fact n) rw bg sx ro ln wz, bl_W q ak (am 0) (ag 0) 6 (pz_fact n) fk wk rk T.1.length lk dk me ck, gq_W q ag (am 0) (pz_fact n) (2 ^ b) (32 - b) rl st1 sl1 G1.length, wz_rows 12 rl (fun i9 => .inl (q.1, pz_fact n, .inl (L1 i9))), mv_W q am n k rt fo, wz_rows 12 rt (fun i9 => .inl (q.1, 8, .inl (M i9)))] : wz_G).flatten → va_S A s.heap H locs → lv_has ls 7 [(0, .ref (as9 0)), (1, .int (nI ix)), (2, .int (nI lf)), (3, .int (nI o))] → W p l e ({ frames := 3, cells := 0, slots := 0, locals := 72 } : Room) s m ([.ref (as9 0), .int (nI ix), .int (nI lf)] : List Value).toArray below meth c H locs 0 0 (MQ below (va_Qi (po_S_leastStep q as9 ak ag am n b k rl rt fo M sg tu od a0 r1 r2 rw bg sx ro ln wz G st sl L T fk wk rk lk dk me ck x ix lf) (wz_At D q A) A) ([.ref (as9 0), .int (nI ix), .int (nI lf)] : List Value).toArray s 0 0 A) (F0 m 2 ls []) := by
    intro d
    induction d with
    | zero =>
      intro o G1 st1 sl1 L1 ho hd hp1 hok1 hT1 hno
      omega
    | succ d ih =>
      intro o G1 st1 sl1 L1 ho hd hp1 hok1 hT1 hno H locs ls hP hD hS hl
      refine lv_iload_n hx hb d_S_leastStep_2 rfl (lv_at hl 3 rfl) ?_
      refine lv_aload_n hx hb d_S_leastStep_3 rfl (lv_at hl 0 rfl) ?_
      refine wz_get (v := .ref (am 0)) (T := T_S) (N := 12) hx hb hts i_S hown hK hP 0 0 rfl rfl rfl 1 (by decide) (hts _ kw_170) rfl rfl d_S_leastStep_4 ?_
      refine wz_getN (v := .int (nI k)) (T := T_M) (N := 4) hx hb hts i_M hown hK hP 4 0 rfl rfl rfl 3 (by decide) (hN.1 _ (List.mem_of_getElem? (i := 2) rfl)) rfl rfl d_S_leastStep_7 ?_
      refine wz_ge (tgt := 89) hx hb d_S_leastStep_10 (by decide) (by omega) (by omega) (fun hc => ?_) (fun hc => ?_)
      · skip
        obtain ⟨m9, t9, q1, q2, q3, q4⟩ := hex
        exact absurd q4 (hno m9 t9 (by omega) q2 q3)
      · skip
        have hmt := bl_mt_le (me := me) hmv hc
        have huw := bl_way hk (Or.inl rfl) hc
        refine lv_aload_n hx hb d_S_leastStep_13 rfl (lv_at hl 0 rfl) ?_
        refine wz_get (v := .ref (am 0)) (T := T_S) (N := 12) hx hb hts i_S hown hK hP 0 0 rfl rfl rfl 1 (by decide) (hts _ kw_170) rfl rfl d_S_leastStep_14 ?_
        refine lv_aload_n hx hb d_S_leastStep_17 rfl (lv_at hl 0 rfl) ?_
        refine wz_get (v := .ref (ak 0)) (T := T_S) (N := 12) hx hb hts i_S hown hK hP 0 0 rfl rfl rfl 5 (by decide) (hts _ kw_174) rfl rfl d_S_leastStep_18 ?_
        refine wz_getN (v := .int me) (T := T_B) (N := 11) hx hb hts i_B hown hK hP 1 0 rfl rfl rfl 9 (by decide) (hN.1 _ (List.mem_of_getElem? (i := 12) rfl)) rfl rfl d_S_leastStep_21 ?_
        refine lv_iload_n hx hb d_S_leastStep_24 rfl (lv_at hl 3 rfl) ?_
        have hQ := wz_split (n := 6) (gc := [mv_W q am n k rt fo]) (gr := [se_W q as9 n (am 0) (ag 0) r1 r2 (ak 0) (pz_fact n) rw bg sx ro ln wz, bl_W q ak (am 0) (ag 0) 6 (pz_fact n) fk wk rk T.1.length lk dk me ck, gq_W q ag (am 0) (pz_fact n) (2 ^ b) (32 - b) rl st1 sl1 G1.length, wz_rows 12 rl (fun i9 => .inl (q.1, pz_fact n, .inl (L1 i9))), wz_rows 12 rt (fun i9 => .inl (q.1, 8, .inl (M i9)))]) [4] [0, 1, 2, 3, 5] rfl (by decide) rfl rfl hP hD
        refine wz_calli (va_runV (As := [.int me, .int (nI o)]) (rest := []) ⟨hx, hb, hml, hown, hts⟩ (c_M_mostTimes l D q am n k rt fo me o (by omega) _) (cwV 2 hts (wz_goodV kw_381 kw_360 kw_361 kw_32 kw_362) rfl rfl rfl (by decide +kernel) ⟨Nat.le_of_ble_eq_true rfl, Nat.le_of_ble_eq_true rfl⟩) (wz_preV (gi := 0) (k := 0) hN hK hQ wz_L_ok rfl rfl rfl) rfl rfl hl.1 rfl (lv_room (Nat.le_of_ble_eq_true rfl)) d_S_leastStep_25 ⟨Nat.le_of_ble_eq_true rfl, Nat.le_of_ble_eq_true rfl⟩) hQ hS hA (fun v_25 gx H locs hp hP hD hS => ?_)
        obtain ⟨rfl, rfl⟩ := hp
        obtain ⟨hP, hD⟩ := wz_ord (n := 6) (gs' := [se_W q as9 n (am 0) (ag 0) r1 r2 (ak 0) (pz_fact n) rw bg sx ro ln wz, bl_W q ak (am 0) (ag 0) 6 (pz_fact n) fk wk rk T.1.length lk dk me ck, gq_W q ag (am 0) (pz_fact n) (2 ^ b) (32 - b) rl st1 sl1 G1.length, wz_rows 12 rl (fun i9 => .inl (q.1, pz_fact n, .inl (L1 i9))), mv_W q am n k rt fo, wz_rows 12 rt (fun i9 => .inl (q.1, 8, .inl (M i9)))]) [1, 2, 3, 4, 0, 5] rfl (by decide) rfl hP hD
        refine wz_topi (y := nI (bl_mt me od o)) (bl_mt_eq hmv hc) ?_
        obtain ⟨Na, hNa⟩ := hp1
        have hix1 : G1[ix]? = some x := by rw [hNa, List.getElem?_append_left hixl]; exact hix
        refine lv_istore (lv' := [(4, .int (nI (bl_mt me od o))), (0, .ref (as9 0)), (1, .int (nI ix)), (2, .int (nI lf)), (3, .int (nI o))]) hx hb d_S_leastStep_28 hl (by decide) rfl (fun ls hl => ?_)
        refine lv_iload_n hx hb d_S_leastStep_30 rfl (lv_at hl 2 rfl) ?_
        refine lv_istore (lv' := [(5, .int (nI ix)), (4, .int (nI (bl_mt me od o))), (0, .ref (as9 0)), (1, .int (nI ix)), (2, .int (nI lf)), (3, .int (nI o))]) hx hb d_S_leastStep_31 hl (by decide) rfl (fun ls hl => ?_)
        refine lv_iconst (v := nI 1) hx hb d_S_leastStep_33 (by decide) ?_
        refine lv_istore (lv' := [(6, .int (nI 1)), (5, .int (nI ix)), (4, .int (nI (bl_mt me od o))), (0, .ref (as9 0)), (1, .int (nI ix)), (2, .int (nI lf)), (3, .int (nI o))]) hx hb d_S_leastStep_34 hl (by decide) rfl (fun ls hl => ?_)
        have inner : ∀ (d2 : Nat) (t j : Nat) (G2 : List Nat) (st2 sl2 : Nat → Int32) (L2 : Nat → Nat → Int32), t ≤ bl_mt me od o → bl_mt me od o + 1 ≤ t + d2 → G2[j]? = some (pz_it (bl_g n 0 sg tu o) t x) → (∃ Nw, G2 = G ++ Nw) → gq_ok n a0 b k sg tu G2 st2 sl2 L2 → bl_ok (pz_fact n) G2 T fk wk rk → (∀ t9, 0 < t9 → t9 ≤ t → T.2.1 (pz_it (bl_g n 0 sg tu o) t9 x) ≠ some lf) → ∀ (H : Heap) (locs : List Loc) (ls : Array Slot), va_P D vwCl ([se_W q as9 n (am 0) (ag 0) r1 r2 (ak 0) (pz_fact n) rw bg sx ro ln wz, bl_W q ak (am 0) (ag 0) 6 (pz_fact n) fk wk rk T.1.length lk dk me ck, gq_W q ag (am 0) (pz_fact n) (2 ^ b) (32 - b) rl st2 sl2 G2.length, wz_rows 12 rl (fun i9 => .inl (q.1, pz_fact n, .inl (L2 i9))), mv_W q am n k rt fo, wz_rows 12 rt (fun i9 => .inl (q.1, 8, .inl (M i9)))] : wz_G).flatten H → va_D A ([se_W q as9 n (am 0) (ag 0) r1 r2 (ak 0) (pz_fact n) rw bg sx ro ln wz, bl_W q ak (am 0) (ag 0) 6 (pz_fact n) fk wk rk T.1.length lk dk me ck, gq_W q ag (am 0) (pz_fact n) (2 ^ b) (32 - b) rl st2 sl2 G2.length, wz_rows 12 rl (fun i9 => .inl (q.1, pz_fact n, .inl (L2 i9))), mv_W q am n k rt fo, wz_rows 12 rt (fun i9 => .inl (q.1, 8, .inl (M i9)))] : wz_G).flatten → va_S A s.heap H locs → lv_has ls 7 [(0, .ref (as9 0)), (1, .int (nI ix)), (2, .int (nI lf)), (3, .int (nI o)), (4, .int (nI (bl_mt me od o))), (5, .int (nI j)), (6, .int (nI (t + 1)))] → W p l e ({ frames := 3, cells := 0, slots := 0, locals := 72 } : Room) s m ([.ref (as9 0), .int (nI ix), .int (nI lf)] : List Value).toArray below meth c H locs 0 0 (MQ below (va_Qi (po_S_leastStep q as9 ak ag am n b k rl rt fo M sg tu od a0 r1 r2 rw bg sx ro ln wz G st sl L T fk wk rk lk dk me ck x ix lf) (wz_At D q A) A) ([.ref (as9 0), .int (nI ix), .int (nI lf)] : List Value).toArray s 0 0 A) (F0 m 36 ls []) := by
          intro d2
          induction d2 with
          | zero =>
            intro t j G2 st2 sl2 L2 ht hd2 hj hp2 hok2 hT2 hno2
            omega
          | succ d2 ih2 =>
            intro t j G2 st2 sl2 L2 ht hd2 hj hp2 hok2 hT2 hno2 H locs ls hP hD hS hl
            refine lv_iload hx hb d_S_leastStep_36 (lv_at hl 6 rfl) ?_
            refine lv_iload hx hb d_S_leastStep_38 (lv_at hl 4 rfl) ?_
            refine wz_gt (tgt := 83) hx hb d_S_leastStep_40 (by decide) (by omega) (by omega) (fun hc2 => ?_) (fun hc2 => ?_)
            · skip
              refine lv_iinc (v := nI (o + 1)) (lv' := [(3, .int (nI (o + 1))), (0, .ref (as9 0)), (1, .int (nI ix)), (2, .int (nI lf)), (4, .int (nI (bl_mt me od o))), (5, .int (nI j)), (6, .int (nI (t + 1)))]) hx hb d_S_leastStep_83 hl (k := 3) rfl (nI_1 o) (by decide) rfl (fun ls hl => ?_)
              refine lv_goto (tgt := 2) hx hb d_S_leastStep_86 (by decide) ?_
              exact ih (o + 1) G2 st2 sl2 L2 (by omega) (by omega) hp2 hok2 hT2 (fun m9 t9 q1 q2 q3 => by
                by_cases e0 : m9 = o
                · subst e0; exact hno2 t9 q2 (by omega)
                · exact hno m9 t9 (by omega) q2 q3) _ _ _ hP hD hS (lv_sub hl [1, 2, 3, 0] rfl)
            · skip
              refine lv_aload_n hx hb d_S_leastStep_43 rfl (lv_at hl 0 rfl) ?_
              refine wz_get (v := .ref (ag 0)) (T := T_S) (N := 12) hx hb hts i_S hown hK hP 0 0 rfl rfl rfl 2 (by decide) (hts _ kw_171) rfl rfl d_S_leastStep_44 ?_
              refine lv_iload_n hx hb d_S_leastStep_47 rfl (lv_at hl 3 rfl) ?_
              refine wz_topi (y := nI (0 + o)) (by rw [Nat.zero_add]) ?_
              refine lv_iload hx hb d_S_leastStep_48 (lv_at hl 5 rfl) ?_
              have hQ := wz_split (n := 6) (gc := [gq_W q ag (am 0) (pz_fact n) (2 ^ b) (32 - b) rl st2 sl2 G2.length, wz_rows 12 rl (fun i9 => .inl (q.1, pz_fact n, .inl (L2 i9))), mv_W q am n k rt fo, wz_rows 12 rt (fun i9 => .inl (q.1, 8, .inl (M i9)))]) (gr := [se_W q as9 n (am 0) (ag 0) r1 r2 (ak 0) (pz_fact n) rw bg sx ro ln wz, bl_W q ak (am 0) (ag 0) 6 (pz_fact n) fk wk rk T.1.length lk dk me ck]) [2, 3, 4, 5] [0, 1] rfl (by decide) rfl rfl hP hD
              refine wz_calli (va_runV (As := [.int (nI (0 + o)), .int (nI j)]) (rest := []) ⟨hx, hb, hml, hown, hts⟩ (c_G_follow l D q ag am n b k rl rt fo st2 sl2 L2 sg tu G2 M od a0 (0 + o) j (pz_it (bl_g n 0 sg tu o) t x) hn hb0 hb30 hM hk hok2 hmv huw hj _) (cwV 2 hts (wz_goodV kw_382 kw_364 kw_365 kw_34 kw_366) rfl rfl rfl (by decide +kernel) ⟨Nat.le_of_ble_eq_true rfl, Nat.le_of_ble_eq_true rfl⟩) (wz_preV (gi := 0) (k := 0) hN hK hQ wz_L_ok rfl rfl rfl) rfl rfl hl.1 rfl (lv_room (Nat.le_of_ble_eq_true rfl)) d_S_leastStep_50 ⟨Nat.le_of_ble_eq_true rfl, Nat.le_of_ble_eq_true rfl⟩) hQ hS hA (fun v_50 gx H locs hp hP hD hS => ?_)
              obtain ⟨G3, st3, sl3, L3, c9, j3, rfl, rfl, rfl, hj3, ⟨Nb, hNb⟩, hok3⟩ := hp
              obtain ⟨Nc, hNc⟩ := hp2
              have hj3 : G3[j3]? = some (pz_it (bl_g n 0 sg tu o) (t + 1) x) := hj3
              have hG3l := gq_len hok3
              have hT3 := bl_more hT2 ⟨Nb, hNb⟩ hok3.1 hG3l
              have hj3l := (List.getElem?_eq_some_iff.mp hj3).1
              obtain ⟨hP, hD⟩ := wz_ord (n := 6) (gs' := [se_W q as9 n (am 0) (ag 0) r1 r2 (ak 0) (pz_fact n) rw bg sx ro ln wz, bl_W q ak (am 0) (ag 0) 6 (pz_fact n) fk wk rk T.1.length lk dk me ck, gq_W q ag (am 0) (pz_fact n) (2 ^ b) (32 - b) rl st3 sl3 G3.length, wz_rows 12 rl (fun i9 => .inl (q.1, pz_fact n, .inl (L3 i9))), mv_W q am n k rt fo, wz_rows 12 rt (fun i9 => .inl (q.1, 8, .inl (M i9)))]) [4, 5, 0, 1, 2, 3] rfl (by decide) rfl hP hD
              refine lv_istore (lv' := [(5, .int (nI j3)), (0, .ref (as9 0)), (1, .int (nI ix)), (2, .int (nI lf)), (3, .int (nI o)), (4, .int (nI (bl_mt me od o))), (6, .int (nI (t + 1)))]) hx hb d_S_leastStep_53 hl (by decide) rfl (fun ls hl => ?_)
              refine lv_aload_n hx hb d_S_leastStep_55 rfl (lv_at hl 1 rfl) ?_
              refine wz_get (v := .ref (ak 0)) (T := T_S) (N := 12) hx hb hts i_S hown hK hP 0 0 rfl rfl rfl 5 (by decide) (hts _ kw_174) rfl rfl d_S_leastStep_56 ?_
              refine wz_getN (v := .ref (ak 1)) (T := T_B) (N := 11) hx hb hts i_B hown hK hP 1 0 rfl rfl rfl 3 (by decide) (hN.1 _ (List.mem_of_getElem? (i := 5) rfl)) rfl rfl d_S_leastStep_59 ?_
              refine lv_iload hx hb d_S_leastStep_62 (lv_at hl 0 rfl) ?_
              refine wz_iald hx hb hK hP 1 1 (j := j3) rfl rfl (by omega) (by omega) d_S_leastStep_64 ?_
              refine wz_topi (y := (bl_fo (T.2.1 (pz_it (bl_g n 0 sg tu o) (t + 1) x)))) (hT3.2.1 j3 _ hj3).1 ?_
              refine lv_iload_n hx hb d_S_leastStep_65 rfl (lv_at hl 3 rfl) ?_
              refine lv_icmp_ne (tgt := 77) hx hb d_S_leastStep_66 (by decide) (fun hc3 => ?_) (fun hc3 => ?_)
              · skip
                refine lv_iinc (v := nI ((t + 1) + 1)) (lv' := [(6, .int (nI ((t + 1) + 1))), (5, .int (nI j3)), (0, .ref (as9 0)), (1, .int (nI ix)), (2, .int (nI lf)), (3, .int (nI o)), (4, .int (nI (bl_mt me od o)))]) hx hb d_S_leastStep_77 hl (k := 6) rfl (nI_1 (t + 1)) (by decide) rfl (fun ls hl => ?_)
                refine lv_goto (tgt := 36) hx hb d_S_leastStep_80 (by decide) ?_
                exact ih2 (t + 1) j3 G3 st3 sl3 L3 (by omega) (by omega) hj3 ⟨Nc ++ Nb, by rw [hNb, hNc, List.append_assoc]⟩ hok3 hT3 (fun t9 q1 q2 => by
                  by_cases e0 : t9 = t + 1
                  · subst e0; exact fun q => hc3 ((bl_fo_s (fun e9 he9 => hlt _ e9 he9) hlf).mpr q)
                  · exact hno2 t9 q1 (by omega)) _ _ _ hP hD hS (lv_sub hl [2, 3, 4, 5, 6, 1, 0] rfl)
              · skip
                refine lv_iload_n hx hb d_S_leastStep_69 rfl (lv_at hl 4 rfl) ?_
                refine lv_bipush (v := nI 15) hx hb d_S_leastStep_70 (by decide) ?_
                refine lv_imul hx hb d_S_leastStep_72 ?_
                refine wz_topi (y := nI (o * 15)) (pk_mul o 15) ?_
                refine lv_iload hx hb d_S_leastStep_73 (lv_at hl 6 rfl) ?_
                refine lv_iadd hx hb d_S_leastStep_75 ?_
                refine wz_topi (y := nI ((o * 15) + (t + 1))) (nI_add (o * 15) (t + 1)) ?_
                exact wz_iret hx hb hr hlocks hK hP hD hS d_S_leastStep_76 ⟨G3, st3, sl3, L3, o, t + 1, rfl, ⟨Nc ++ Nb, by rw [hNb, hNc, List.append_assoc]⟩, hok3, hT3, rfl, hc, by omega, by omega, (bl_fo_s (fun e9 he9 => hlt _ e9 he9) hlf).mp hc3, fun m9 t9 q1 q2 q3 => by
                  rcases q3 with q3 | ⟨q3, q4⟩
                  · exact hno m9 t9 q3 q1 q2
                  · subst q3; exact hno2 t9 q1 (by omega)⟩
        exact inner (bl_mt me od o + 1) 0 ix G1 st1 sl1 L1 (by omega) (by omega) hix1 ⟨Na, hNa⟩ hok1 hT1 (fun t9 q1 q2 => by omega) _ _ _ hP hD hS (lv_sub hl [3, 4, 5, 6, 2, 1, 0] rfl)
  exact outer (k + 1) 0 G st sl L (by omega) (by omega) ⟨[], by simp⟩ hok hblT (fun m9 t9 q1 => by omega) _ _ _ hP hD hS (lv_sub hl [1, 2, 3, 0] rfl)
def po_S_afterStep (q : wz_Q) (as9 ag am : Nat → Nat) (r3 : Nat) (n b k : Nat) (rl rt : Nat → Nat) (fo : Nat → Int32) (M : Nat → Nat → Int32) (sg tu : Nat → Nat → Nat) (od : Nat → Nat) (a0 r1 r2 : Nat) (rw : Nat → Int32) (bg : Int32) (sx ro : Nat) (ln : Int32) (wz : Int64) (G : List Nat) (st sl : Nat → Int32) (L : Nat → Nat → Int32) (x ix o t9 : Nat) : Int32 → wz_G → Prop := fun v w => ∃ (G' : List Nat) (st' sl' : Nat → Int32) (L' : Nat → Nat → Int32) (j : Nat), w = [se_W q as9 n (am 0) (ag 0) r1 r2 r3 (pz_fact n) rw bg sx ro ln wz, gq_W q ag (am 0) (pz_fact n) (2 ^ b) (32 - b) rl st' sl' G'.length, wz_rows 12 rl (fun i9 => .inl (q.1, pz_fact n, .inl (L' i9))), mv_W q am n k rt fo, wz_rows 12 rt (fun i9 => .inl (q.1, 8, .inl (M i9)))] ∧ (∃ Nw, G' = G ++ Nw) ∧ gq_ok n a0 b k sg tu G' st' sl' L' ∧ v = nI j ∧ G'[j]? = some (pz_it (bl_g n 0 sg tu o) t9 x)
set_option maxHeartbeats 4000000 in
set_option maxRecDepth 100000 in
/-- where a step leads -/
theorem c_S_afterStep (l : Launch) (D : va_G) (q : wz_Q) (as9 ag am : Nat → Nat) (r3 : Nat) (n b k : Nat) (rl rt : Nat → Nat) (fo : Nat → Int32) (M : Nat → Nat → Int32) (sg tu : Nat → Nat → Nat) (od : Nat → Nat) (a0 r1 r2 : Nat) (rw : Nat → Int32) (bg : Int32) (sx ro : Nat) (ln : Int32) (wz : Int64) (G : List Nat) (st sl : Nat → Int32) (L : Nat → Nat → Int32) (x ix o t9 : Nat) (hn : n ≤ 8) (hb0 : 0 < b) (hb30 : b ≤ 30) (hM : pz_fact n < 2 ^ b) (hk : k ≤ 6) (hmv : mv_ok n k fo M sg tu od) (hok : gq_ok n a0 b k sg tu G st sl L) (hix : G[ix]? = some x) (ho : o < k) (ht9 : t9 ≤ 14) : wz_Mi l y_S_afterStep ws_S_afterStep ({ frames := 3, cells := 0, slots := 0, locals := 72 } : Room) D q ([.ref (as9 0), .int (nI ix), .int (nI (o * 15 + t9))] : List Value) [se_W q as9 n (am 0) (ag 0) r1 r2 r3 (pz_fact n) rw bg sx ro ln wz, gq_W q ag (am 0) (pz_fact n) (2 ^ b) (32 - b) rl st sl G.length, wz_rows 12 rl (fun i9 => .inl (q.1, pz_fact n, .inl (L i9))), mv_W q am n k rt fo, wz_rows 12 rt (fun i9 => .inl (q.1, 8, .inl (M i9)))] (po_S_afterStep q as9 ag am r3 n b k rl rt fo M sg tu od a0 r1 r2 rw bg sx ro ln wz G st sl L x ix o t9) 0 0 := by
  intro sz9
  refine wz_enter (cc := b_S_afterStep) (maxL := 5) (ret := (some .int)) (Qc := fun A => (va_Qi (po_S_afterStep q as9 ag am r3 n b k rl rt fo M sg tu od a0 r1 r2 rw bg sx ro ln wz G st sl L x ix o t9) (wz_At D q A) A)) (by decide) (Nat.le_of_ble_eq_true rfl) ?_
  intro p e s m below meth c A ls C hP hD hS hl
  obtain ⟨hx, hb, hr, hml, hlocks, hown, hts, hN, hK, hA, hnm⟩ := C
  have hown : s.vm.findClass "TwoEndSearch$Search" = some m.cls := hown
  have hl : lv_has ls 5 [(0, .ref (as9 0)), (1, .int (nI ix)), (2, .int (nI (o * 15 + t9)))] := hl
  have hfl := pz_fact_le hn
  have huw := bl_way hk (Or.inl rfl) ho
  refine lv_iload_n hx hb d_S_afterStep_0 rfl (lv_at hl 1 rfl) ?_
  refine lv_istore_n (lv' := [(3, .int (nI ix)), (0, .ref (as9 0)), (1, .int (nI ix)), (2, .int (nI (o * 15 + t9)))]) hx hb d_S_afterStep_1 rfl hl (by decide) rfl (fun ls hl => ?_)
  refine lv_iconst (v := nI 0) hx hb d_S_afterStep_2 (by decide) ?_
  refine lv_istore (lv' := [(4, .int (nI 0)), (3, .int (nI ix)), (0, .ref (as9 0)), (1, .int (nI ix)), (2, .int (nI (o * 15 + t9)))]) hx hb d_S_afterStep_3 hl (by decide) rfl (fun ls hl => ?_)
  have loop : ∀ (d : Nat) (u j : Nat) (G1 : List Nat) (st1 sl1 : Nat → Int32) (L1 : Nat → Nat → Int32), u ≤ t9 → t9 + 1 ≤ u + d → G1[j]? = some (pz_it (bl_g n 0 sg tu o) u x) → (∃ Nw, G1 = G ++ Nw) → gq_ok n a0 b k sg tu G1 st1 sl1 L1 → ∀ (H : Heap) (locs : List Loc) (ls : Array Slot), va_P D vwCl ([se_W q as9 n (am 0) (ag 0) r1 r2 r3 (pz_fact n) rw bg sx ro ln wz, gq_W q ag (am 0) (pz_fact n) (2 ^ b) (32 - b) rl st1 sl1 G1.length, wz_rows 12 rl (fun i9 => .inl (q.1, pz_fact n, .inl (L1 i9))), mv_W q am n k rt fo, wz_rows 12 rt (fun i9 => .inl (q.1, 8, .inl (M i9)))] : wz_G).flatten H → va_D A ([se_W q as9 n (am 0) (ag 0) r1 r2 r3 (pz_fact n) rw bg sx ro ln wz, gq_W q ag (am 0) (pz_fact n) (2 ^ b) (32 - b) rl st1 sl1 G1.length, wz_rows 12 rl (fun i9 => .inl (q.1, pz_fact n, .inl (L1 i9))), mv_W q am n k rt fo, wz_rows 12 rt (fun i9 => .inl (q.1, 8, .inl (M i9)))] : wz_G).flatten → va_S A s.heap H locs → lv_has ls 5 [(0, .ref (as9 0)), (1, .int (nI ix)), (2, .int (nI (o * 15 + t9))), (3, .int (nI j)), (4, .int (nI u))] → W p l e ({ frames := 3, cells := 0, slots := 0, locals := 72 } : Room) s m ([.ref (as9 0), .int (nI ix), .int (nI (o * 15 + t9))] : List Value).toArray below meth c H locs 0 0 (MQ below (va_Qi (po_S_afterStep q as9 ag am r3 n b k rl rt fo M sg tu od a0 r1 r2 rw bg sx ro ln wz G st sl L x ix o t9) (wz_At D q A) A) ([.ref (as9 0), .int (nI ix), .int (nI (o * 15 + t9))] : List Value).toArray s 0 0 A) (F0 m 5 ls []) := by
    intro d
    induction d with
    | zero =>
      intro u j G1 st1 sl1 L1 hu hd hj hp1 hok1
      omega
    | succ d ih =>
      intro u j G1 st1 sl1 L1 hu hd hj hp1 hok1 H locs ls hP hD hS hl
      refine lv_iload hx hb d_S_afterStep_5 (lv_at hl 4 rfl) ?_
      refine lv_iload_n hx hb d_S_afterStep_7 rfl (lv_at hl 2 rfl) ?_
      refine lv_bipush (v := nI 15) hx hb d_S_afterStep_8 (by decide) ?_
      refine lv_irem hx hb d_S_afterStep_10 (by decide) ?_
      refine wz_topi (y := nI t9) ((pk_rem (by omega) (by omega) (by omega)).trans (congrArg nI (by omega))) ?_
      refine wz_ge (tgt := 33) hx hb d_S_afterStep_11 (by decide) (by omega) (by omega) (fun hc => ?_) (fun hc => ?_)
      · skip
        have hue : u = t9 := by omega
        subst hue
        refine lv_iload_n hx hb d_S_afterStep_33 rfl (lv_at hl 3 rfl) ?_
        exact wz_iret hx hb hr hlocks hK hP hD hS d_S_afterStep_34 ⟨G1, st1, sl1, L1, j, rfl, hp1, hok1, rfl, hj⟩
      · skip
        refine lv_aload_n hx hb d_S_afterStep_14 rfl (lv_at hl 0 rfl) ?_
        refine wz_get (v := .ref (ag 0)) (T := T_S) (N := 12) hx hb hts i_S hown hK hP 0 0 rfl rfl rfl 2 (by decide) (hts _ kw_171) rfl rfl d_S_afterStep_15 ?_
        refine lv_iload_n hx hb d_S_afterStep_18 rfl (lv_at hl 2 rfl) ?_
        refine lv_bipush (v := nI 15) hx hb d_S_afterStep_19 (by decide) ?_
        refine lv_idiv hx hb d_S_afterStep_21 (by decide) ?_
        refine wz_topi (y := nI (0 + o)) ((pk_div (by omega) (by omega) (by omega)).trans (congrArg nI (by omega))) ?_
        refine lv_iload_n hx hb d_S_afterStep_22 rfl (lv_at hl 3 rfl) ?_
        have hQ := wz_split (n := 5) (gc := [gq_W q ag (am 0) (pz_fact n) (2 ^ b) (32 - b) rl st1 sl1 G1.length, wz_rows 12 rl (fun i9 => .inl (q.1, pz_fact n, .inl (L1 i9))), mv_W q am n k rt fo, wz_rows 12 rt (fun i9 => .inl (q.1, 8, .inl (M i9)))]) (gr := [se_W q as9 n (am 0) (ag 0) r1 r2 r3 (pz_fact n) rw bg sx ro ln wz]) [1, 2, 3, 4] [0] rfl (by decide) rfl rfl hP hD
        refine wz_calli (va_runV (As := [.int (nI (0 + o)), .int (nI j)]) (rest := []) ⟨hx, hb, hml, hown, hts⟩ (c_G_follow l D q ag am n b k rl rt fo st1 sl1 L1 sg tu G1 M od a0 (0 + o) j (pz_it (bl_g n 0 sg tu o) u x) hn hb0 hb30 hM hk hok1 hmv huw hj _) (cwV 2 hts (wz_goodV kw_382 kw_364 kw_365 kw_34 kw_366) rfl rfl rfl (by decide +kernel) ⟨Nat.le_of_ble_eq_true rfl, Nat.le_of_ble_eq_true rfl⟩) (wz_preV (gi := 0) (k := 0) hN hK hQ wz_L_ok rfl rfl rfl) rfl rfl hl.1 rfl (lv_room (Nat.le_of_ble_eq_true rfl)) d_S_afterStep_23 ⟨Nat.le_of_ble_eq_true rfl, Nat.le_of_ble_eq_true rfl⟩) hQ hS hA (fun v_23 gx H locs hp hP hD hS => ?_)
        obtain ⟨G3, st3, sl3, L3, c9, j3, rfl, rfl, rfl, hj3, ⟨Nb, hNb⟩, hok3⟩ := hp
        obtain ⟨Nc, hNc⟩ := hp1
        have hj3 : G3[j3]? = some (pz_it (bl_g n 0 sg tu o) (u + 1) x) := hj3
        obtain ⟨hP, hD⟩ := wz_ord (n := 5) (gs' := [se_W q as9 n (am 0) (ag 0) r1 r2 r3 (pz_fact n) rw bg sx ro ln wz, gq_W q ag (am 0) (pz_fact n) (2 ^ b) (32 - b) rl st3 sl3 G3.length, wz_rows 12 rl (fun i9 => .inl (q.1, pz_fact n, .inl (L3 i9))), mv_W q am n k rt fo, wz_rows 12 rt (fun i9 => .inl (q.1, 8, .inl (M i9)))]) [4, 0, 1, 2, 3] rfl (by decide) rfl hP hD
        refine lv_istore_n (lv' := [(3, .int (nI j3)), (0, .ref (as9 0)), (1, .int (nI ix)), (2, .int (nI (o * 15 + t9))), (4, .int (nI u))]) hx hb d_S_afterStep_26 rfl hl (by decide) rfl (fun ls hl => ?_)
        refine lv_iinc (v := nI (u + 1)) (lv' := [(4, .int (nI (u + 1))), (3, .int (nI j3)), (0, .ref (as9 0)), (1, .int (nI ix)), (2, .int (nI (o * 15 + t9)))]) hx hb d_S_afterStep_27 hl (k := 4) rfl (nI_1 u) (by decide) rfl (fun ls hl => ?_)
        refine lv_goto (tgt := 5) hx hb d_S_afterStep_30 (by decide) ?_
        exact ih (u + 1) j3 G3 st3 sl3 L3 (by omega) (by omega) hj3 ⟨Nc ++ Nb, by rw [hNb, hNc, List.append_assoc]⟩ hok3 _ _ _ hP hD hS (lv_sub hl [2, 3, 4, 1, 0] rfl)
  exact loop (t9 + 1) 0 ix G st sl L (by omega) (by omega) hix ⟨[], by simp⟩ hok _ _ _ hP hD hS (lv_sub hl [2, 3, 4, 1, 0] rfl)
def po_S_walkLeastRow (q : wz_Q) (as9 ak ag am : Nat → Nat) (n b k : Nat) (rl rt : Nat → Nat) (fo : Nat → Int32) (M : Nat → Nat → Int32) (sg tu : Nat → Nat → Nat) (od : Nat → Nat) (a0 r1 r2 : Nat) (rw : Nat → Int32) (bg : Int32) (sx ro : Nat) (ln : Int32) (wz : Int64) (G : List Nat) (st sl : Nat → Int32) (L : Nat → Nat → Int32) (T : pz_S) (fk : Nat → Int32) (wk : Nat → Int64) (rk : Nat → Int32) (lk dk : Nat) (me ck : Int32) (sa gl len : Nat) : wz_G → Prop := fun w => ∃ (G' : List Nat) (st' sl' : Nat → Int32) (L' : Nat → Nat → Int32) (rw' : Nat → Int32) (mv9 tm9 X9 : Nat → Nat), w = [se_W q as9 n (am 0) (ag 0) r1 r2 (ak 0) (pz_fact n) rw' bg sx ro ln wz, bl_W q ak (am 0) (ag 0) 6 (pz_fact n) fk wk rk T.1.length lk dk me ck, gq_W q ag (am 0) (pz_fact n) (2 ^ b) (32 - b) rl st' sl' G'.length, wz_rows 12 rl (fun i9 => .inl (q.1, pz_fact n, .inl (L' i9))), mv_W q am n k rt fo, wz_rows 12 rt (fun i9 => .inl (q.1, 8, .inl (M i9)))] ∧ ((∃ Nw, G' = G ++ Nw) ∧ gq_ok n a0 b k sg tu G' st' sl' L') ∧ bl_ok (pz_fact n) G' T fk wk rk ∧ pz_row k (bl_mt me od) (bl_g n 0 sg tu) (pz_dist (bl_s n k 6 sg tu od me) gl) sa len mv9 tm9 X9 ∧ ∀ i, i < len → rw' i = nI (mv9 i * 15 + tm9 i)
set_option maxHeartbeats 4000000 in
set_option maxRecDepth 100000 in
/-- the least shortest row -/
theorem c_S_walkLeastRow (l : Launch) (D : va_G) (q : wz_Q) (as9 ak ag am : Nat → Nat) (n b k : Nat) (rl rt : Nat → Nat) (fo : Nat → Int32) (M : Nat → Nat → Int32) (sg tu : Nat → Nat → Nat) (od : Nat → Nat) (a0 r1 r2 : Nat) (rw : Nat → Int32) (bg : Int32) (sx ro : Nat) (ln : Int32) (wz : Int64) (G : List Nat) (st sl : Nat → Int32) (L : Nat → Nat → Int32) (T : pz_S) (fk : Nat → Int32) (wk : Nat → Int64) (rk : Nat → Int32) (lk dk : Nat) (me ck : Int32) (sa gl len : Nat) (hn : n ≤ 8) (hb0 : 0 < b) (hb30 : b ≤ 30) (hM : pz_fact n < 2 ^ b) (hk : k ≤ 6) (hmv : mv_ok n k fo M sg tu od) (hok : gq_ok n a0 b k sg tu G st sl L) (hblT : bl_ok (pz_fact n) G T fk wk rk) (hrv : ∀ u v, pz_cnt v (bl_s n k 0 sg tu od me u) = pz_cnt u (bl_s n k 6 sg tu od me v)) (hro : G[ro]? = some sa) (hln : ln = nI len) (hlen : len < pz_fact n) (hdist : pz_dist (bl_s n k 0 sg tu od me) sa gl len) (hlt : ∀ y e, T.2.1 y = some e → e < 2 ^ 30) (hTe : ∀ y e, T.2.1 y = some e → pz_dist (bl_s n k 6 sg tu od me) gl y e) (hTa : ∀ y f e, pz_dist (bl_s n k 0 sg tu od me) sa y f → pz_dist (bl_s n k 6 sg tu od me) gl y e → f + e = len → T.2.1 y = some e) : wz_Mv l y_S_walkLeastRow ws_S_walkLeastRow ({ frames := 4, cells := 0, slots := 0, locals := 98 } : Room) D q ([.ref (as9 0)] : List Value) [se_W q as9 n (am 0) (ag 0) r1 r2 (ak 0) (pz_fact n) rw bg sx ro ln wz, bl_W q ak (am 0) (ag 0) 6 (pz_fact n) fk wk rk T.1.length lk dk me ck, gq_W q ag (am 0) (pz_fact n) (2 ^ b) (32 - b) rl st sl G.length, wz_rows 12 rl (fun i9 => .inl (q.1, pz_fact n, .inl (L i9))), mv_W q am n k rt fo, wz_rows 12 rt (fun i9 => .inl (q.1, 8, .inl (M i9)))] (po_S_walkLeastRow q as9 ak ag am n b k rl rt fo M sg tu od a0 r1 r2 rw bg sx ro ln wz G st sl L T fk wk rk lk dk me ck sa gl len) 0 0 := by
  intro sz9
  refine wz_enter (cc := b_S_walkLeastRow) (maxL := 3) (ret := none) (Qc := fun A => (va_Qv (po_S_walkLeastRow q as9 ak ag am n b k rl rt fo M sg tu od a0 r1 r2 rw bg sx ro ln wz G st sl L T fk wk rk lk dk me ck sa gl len) (wz_At D q A) A)) (by decide) (Nat.le_of_ble_eq_true rfl) ?_
  intro p e s m below meth c A ls C hP hD hS hl
  obtain ⟨hx, hb, hr, hml, hlocks, hown, hts, hN, hK, hA, hnm⟩ := C
  have hown : s.vm.findClass "TwoEndSearch$Search" = some m.cls := hown
  have hl : lv_has ls 3 [(0, .ref (as9 0))] := hl
  have hfl := pz_fact_le hn
  subst hln
  refine lv_aload_n hx hb d_S_walkLeastRow_0 rfl (lv_at hl 0 rfl) ?_
  refine wz_get (v := .int (nI ro)) (T := T_S) (N := 12) hx hb hts i_S hown hK hP 0 0 rfl rfl rfl 9 (by decide) (hts _ kw_180) rfl rfl d_S_walkLeastRow_1 ?_
  refine lv_istore_n (lv' := [(1, .int (nI ro)), (0, .ref (as9 0))]) hx hb d_S_walkLeastRow_4 rfl hl (by decide) rfl (fun ls hl => ?_)
  refine lv_iconst (v := nI 0) hx hb d_S_walkLeastRow_5 (by decide) ?_
  refine lv_istore_n (lv' := [(2, .int (nI 0)), (1, .int (nI ro)), (0, .ref (as9 0))]) hx hb d_S_walkLeastRow_6 rfl hl (by decide) rfl (fun ls hl => ?_)
  have loop : ∀ (d : Nat) (i j : Nat) (G1 : List Nat) (st1 sl1 : Nat → Int32) (L1 : Nat → Nat → Int32) (rw1 : Nat → Int32) (mv9 tm9 X9 : Nat → Nat), i ≤ len → len + 1 ≤ i + d → G1[j]? = some (X9 i) → (∃ Nw, G1 = G ++ Nw) → gq_ok n a0 b k sg tu G1 st1 sl1 L1 → bl_ok (pz_fact n) G1 T fk wk rk → X9 0 = sa → (∀ i9, i9 < i → pz_fst k (bl_mt me od) (fun m t => pz_dist (bl_s n k 6 sg tu od me) gl (pz_it (bl_g n 0 sg tu m) t (X9 i9)) (len - i9 - 1)) (mv9 i9) (tm9 i9) ∧ X9 (i9 + 1) = pz_it (bl_g n 0 sg tu (mv9 i9)) (tm9 i9) (X9 i9)) → pz_dist (bl_s n k 0 sg tu od me) sa (X9 i) i → pz_dist (bl_s n k 6 sg tu od me) gl (X9 i) (len - i) → (∀ i9, i9 < i → rw1 i9 = nI (mv9 i9 * 15 + tm9 i9)) → ∀ (H : Heap) (locs : List Loc) (ls : Array Slot), va_P D vwCl ([se_W q as9 n (am 0) (ag 0) r1 r2 (ak 0) (pz_fact n) rw1 bg sx ro (nI len) wz, bl_W q ak (am 0) (ag 0) 6 (pz_fact n) fk wk rk T.1.length lk dk me ck, gq_W q ag (am 0) (pz_fact n) (2 ^ b) (32 - b) rl st1 sl1 G1.length, wz_rows 12 rl (fun i9 => .inl (q.1, pz_fact n, .inl (L1 i9))), mv_W q am n k rt fo, wz_rows 12 rt (fun i9 => .inl (q.1, 8, .inl (M i9)))] : wz_G).flatten H → va_D A ([se_W q as9 n (am 0) (ag 0) r1 r2 (ak 0) (pz_fact n) rw1 bg sx ro (nI len) wz, bl_W q ak (am 0) (ag 0) 6 (pz_fact n) fk wk rk T.1.length lk dk me ck, gq_W q ag (am 0) (pz_fact n) (2 ^ b) (32 - b) rl st1 sl1 G1.length, wz_rows 12 rl (fun i9 => .inl (q.1, pz_fact n, .inl (L1 i9))), mv_W q am n k rt fo, wz_rows 12 rt (fun i9 => .inl (q.1, 8, .inl (M i9)))] : wz_G).flatten → va_S A s.heap H locs → lv_has ls 3 [(0, .ref (as9 0)), (1, .int (nI j)), (2, .int (nI i))] → W p l e ({ frames := 4, cells := 0, slots := 0, locals := 98 } : Room) s m ([.ref (as9 0)] : List Value).toArray below meth c H locs 0 0 (MQ below (va_Qv (po_S_walkLeastRow q as9 ak ag am n b k rl rt fo M sg tu od a0 r1 r2 rw bg sx ro (nI len) wz G st sl L T fk wk rk lk dk me ck sa gl len) (wz_At D q A) A) ([.ref (as9 0)] : List Value).toArray s 0 0 A) (F0 m 7 ls []) := by
    intro d
    induction d with
    | zero =>
      intro i j G1 st1 sl1 L1 rw1 mv9 tm9 X9 hi hd hj hp1 hok1 hT1 hX0 hrow hds hdg hrw
      omega
    | succ d ih =>
      intro i j G1 st1 sl1 L1 rw1 mv9 tm9 X9 hi hd hj hp1 hok1 hT1 hX0 hrow hds hdg hrw H locs ls hP hD hS hl
      refine lv_iload_n hx hb d_S_walkLeastRow_7 rfl (lv_at hl 2 rfl) ?_
      refine lv_aload_n hx hb d_S_walkLeastRow_8 rfl (lv_at hl 0 rfl) ?_
      refine wz_get (v := .int (nI len)) (T := T_S) (N := 12) hx hb hts i_S hown hK hP 0 0 rfl rfl rfl 10 (by decide) (hts _ kw_181) rfl rfl d_S_walkLeastRow_9 ?_
      refine wz_ge (tgt := 61) hx hb d_S_walkLeastRow_12 (by decide) (by omega) (by omega) (fun hc => ?_) (fun hc => ?_)
      · skip
        have hie : i = len := by omega
        subst hie
        exact wz_vret hx hb hr hlocks hK hP hD hS d_S_walkLeastRow_61 ⟨G1, st1, sl1, L1, rw1, mv9, tm9, X9, rfl, ⟨hp1, hok1⟩, hT1, ⟨hX0, hrow⟩, hrw⟩
      · skip
        refine lv_iload_n hx hb d_S_walkLeastRow_15 rfl (lv_at hl 2 rfl) ?_
        refine lv_aload_n hx hb d_S_walkLeastRow_16 rfl (lv_at hl 0 rfl) ?_
        refine wz_get (v := .ref (as9 1)) (T := T_S) (N := 12) hx hb hts i_S hown hK hP 0 0 rfl rfl rfl 6 (by decide) (hts _ kw_175) rfl rfl d_S_walkLeastRow_17 ?_
        refine wz_alen hx hb hK hP 0 1 (n := pz_fact n) rfl rfl d_S_walkLeastRow_20 ?_
        refine wz_ge (tgt := 61) hx hb d_S_walkLeastRow_21 (by decide) (by omega) (by omega) (fun hc2 => ?_) (fun hc2 => ?_)
        · skip
          exfalso; omega
        · skip
          obtain ⟨hex, hiff, hkey⟩ := bl_near hrv hdist hTe hTa hc hds hdg
          refine lv_aload_n hx hb d_S_walkLeastRow_24 rfl (lv_at hl 0 rfl) ?_
          refine wz_get (v := .ref (as9 1)) (T := T_S) (N := 12) hx hb hts i_S hown hK hP 0 0 rfl rfl rfl 6 (by decide) (hts _ kw_175) rfl rfl d_S_walkLeastRow_25 ?_
          refine lv_iload_n hx hb d_S_walkLeastRow_28 rfl (lv_at hl 2 rfl) ?_
          refine lv_aload_n hx hb d_S_walkLeastRow_29 rfl (lv_at hl 0 rfl) ?_
          refine lv_iload_n hx hb d_S_walkLeastRow_30 rfl (lv_at hl 1 rfl) ?_
          refine lv_aload_n hx hb d_S_walkLeastRow_31 rfl (lv_at hl 0 rfl) ?_
          refine wz_get (v := .int (nI len)) (T := T_S) (N := 12) hx hb hts i_S hown hK hP 0 0 rfl rfl rfl 10 (by decide) (hts _ kw_181) rfl rfl d_S_walkLeastRow_32 ?_
          refine lv_iload_n hx hb d_S_walkLeastRow_35 rfl (lv_at hl 2 rfl) ?_
          refine lv_isub hx hb d_S_walkLeastRow_36 ?_
          refine wz_topi (y := nI (len - i)) (pk_sub (by omega)) ?_
          refine lv_iconst (v := nI 1) hx hb d_S_walkLeastRow_37 (by decide) ?_
          refine lv_isub hx hb d_S_walkLeastRow_38 ?_
          refine wz_topi (y := nI (len - i - 1)) (pk_sub (by omega)) ?_
          have hQ := wz_split (n := 6) (gc := [se_W q as9 n (am 0) (ag 0) r1 r2 (ak 0) (pz_fact n) rw1 bg sx ro (nI len) wz, bl_W q ak (am 0) (ag 0) 6 (pz_fact n) fk wk rk T.1.length lk dk me ck, gq_W q ag (am 0) (pz_fact n) (2 ^ b) (32 - b) rl st1 sl1 G1.length, wz_rows 12 rl (fun i9 => .inl (q.1, pz_fact n, .inl (L1 i9))), mv_W q am n k rt fo, wz_rows 12 rt (fun i9 => .inl (q.1, 8, .inl (M i9)))]) (gr := []) [0, 1, 2, 3, 4, 5] [] rfl (by decide) rfl rfl hP hD
          refine wz_calli (va_runV (As := [.int (nI j), .int (nI (len - i - 1))]) (rest := [.int (nI i), .ref (as9 1)]) ⟨hx, hb, hml, hown, hts⟩ (c_S_leastStep l D q as9 ak ag am n b k rl rt fo M sg tu od a0 r1 r2 rw1 bg sx ro (nI len) wz G1 st1 sl1 L1 T fk wk rk lk dk me ck (X9 i) j (len - i - 1) hn hb0 hb30 hM hk hmv hok1 hT1 hj hlt (by omega) hex _) (cwV 2 hts (wz_goodV kw_388 kw_390 kw_13 kw_33 kw_391) rfl rfl rfl (by decide +kernel) ⟨Nat.le_of_ble_eq_true rfl, Nat.le_of_ble_eq_true rfl⟩) (wz_preV (gi := 0) (k := 0) hN hK hQ wz_L_ok rfl rfl rfl) rfl rfl hl.1 rfl (lv_room (Nat.le_of_ble_eq_true rfl)) d_S_walkLeastRow_39 ⟨Nat.le_of_ble_eq_true rfl, Nat.le_of_ble_eq_true rfl⟩) hQ hS hA (fun v_39 gx H locs hp hP hD hS => ?_)
          obtain ⟨G2, st2, sl2, L2, o, t9, rfl, ⟨Nb, hNb⟩, hok2, hT2, rfl, hfst⟩ := hp
          obtain ⟨Na, hNa⟩ := hp1
          have hj2 : G2[j]? = some (X9 i) := by rw [hNb, List.getElem?_append_left (List.getElem?_eq_some_iff.mp hj).1]; exact hj
          have hmt := bl_mt_le (me := me) hmv hfst.1
          have ht914 := hfst.2.2.1
          obtain ⟨hP, hD⟩ := wz_ord (n := 6) (gs' := [se_W q as9 n (am 0) (ag 0) r1 r2 (ak 0) (pz_fact n) rw1 bg sx ro (nI len) wz, bl_W q ak (am 0) (ag 0) 6 (pz_fact n) fk wk rk T.1.length lk dk me ck, gq_W q ag (am 0) (pz_fact n) (2 ^ b) (32 - b) rl st2 sl2 G2.length, wz_rows 12 rl (fun i9 => .inl (q.1, pz_fact n, .inl (L2 i9))), mv_W q am n k rt fo, wz_rows 12 rt (fun i9 => .inl (q.1, 8, .inl (M i9)))]) [0, 1, 2, 3, 4, 5] rfl (by decide) rfl hP hD
          refine wz_iast (gs' := [se_W q as9 n (am 0) (ag 0) r1 r2 (ak 0) (pz_fact n) (upd rw1 i (nI (o * 15 + t9))) bg sx ro (nI len) wz, bl_W q ak (am 0) (ag 0) 6 (pz_fact n) fk wk rk T.1.length lk dk me ck, gq_W q ag (am 0) (pz_fact n) (2 ^ b) (32 - b) rl st2 sl2 G2.length, wz_rows 12 rl (fun i9 => .inl (q.1, pz_fact n, .inl (L2 i9))), mv_W q am n k rt fo, wz_rows 12 rt (fun i9 => .inl (q.1, 8, .inl (M i9)))]) hx hb hK hP hD hS 0 1 (j := i) rfl rfl (by omega) (by omega) d_S_walkLeastRow_42 rfl (fun H locs hP hD hS => ?_)
          refine lv_aload_n hx hb d_S_walkLeastRow_43 rfl (lv_at hl 0 rfl) ?_
          refine lv_iload_n hx hb d_S_walkLeastRow_44 rfl (lv_at hl 1 rfl) ?_
          refine lv_aload_n hx hb d_S_walkLeastRow_45 rfl (lv_at hl 0 rfl) ?_
          refine wz_get (v := .ref (as9 1)) (T := T_S) (N := 12) hx hb hts i_S hown hK hP 0 0 rfl rfl rfl 6 (by decide) (hts _ kw_175) rfl rfl d_S_walkLeastRow_46 ?_
          refine lv_iload_n hx hb d_S_walkLeastRow_49 rfl (lv_at hl 2 rfl) ?_
          refine wz_iald hx hb hK hP 0 1 (j := i) rfl rfl (by omega) (by omega) d_S_walkLeastRow_50 ?_
          refine wz_topi (y := nI (o * 15 + t9)) pk_us ?_
          have hQ := wz_split (n := 6) (gc := [se_W q as9 n (am 0) (ag 0) r1 r2 (ak 0) (pz_fact n) (upd rw1 i (nI (o * 15 + t9))) bg sx ro (nI len) wz, gq_W q ag (am 0) (pz_fact n) (2 ^ b) (32 - b) rl st2 sl2 G2.length, wz_rows 12 rl (fun i9 => .inl (q.1, pz_fact n, .inl (L2 i9))), mv_W q am n k rt fo, wz_rows 12 rt (fun i9 => .inl (q.1, 8, .inl (M i9)))]) (gr := [bl_W q ak (am 0) (ag 0) 6 (pz_fact n) fk wk rk T.1.length lk dk me ck]) [0, 2, 3, 4, 5] [1] rfl (by decide) rfl rfl hP hD
          refine wz_calli (va_runV (As := [.int (nI j), .int (nI (o * 15 + t9))]) (rest := []) ⟨hx, hb, hml, hown, hts⟩ (c_S_afterStep l D q as9 ag am (ak 0) n b k rl rt fo M sg tu od a0 r1 r2 (upd rw1 i (nI (o * 15 + t9))) bg sx ro (nI len) wz G2 st2 sl2 L2 (X9 i) j o t9 hn hb0 hb30 hM hk hmv hok2 hj2 hfst.1 (by omega) _) (cwV 2 hts (wz_goodV kw_392 kw_394 kw_14 kw_33 kw_395) rfl rfl rfl (by decide +kernel) ⟨Nat.le_of_ble_eq_true rfl, Nat.le_of_ble_eq_true rfl⟩) (wz_preV (gi := 0) (k := 0) hN hK hQ wz_L_ok rfl rfl rfl) rfl rfl hl.1 rfl (lv_room (Nat.le_of_ble_eq_true rfl)) d_S_walkLeastRow_51 ⟨Nat.le_of_ble_eq_true rfl, Nat.le_of_ble_eq_true rfl⟩) hQ hS hA (fun v_51 gx H locs hp hP hD hS => ?_)
          obtain ⟨G3, st3, sl3, L3, j3, rfl, ⟨Nc, hNc⟩, hok3, rfl, hj3⟩ := hp
          have hT3 := bl_more hT2 ⟨Nc, hNc⟩ hok3.1 (gq_len hok3)
          have hfst' := pz_fst_of hiff hfst
          have hdg' := hfst'.2.2.2.1
          have hds' := hkey _ (pz_st_mem.mpr ⟨o, t9, hfst.1, hfst.2.1, hfst.2.2.1, rfl⟩) hdg'
          obtain ⟨hP, hD⟩ := wz_ord (n := 6) (gs' := [se_W q as9 n (am 0) (ag 0) r1 r2 (ak 0) (pz_fact n) (upd rw1 i (nI (o * 15 + t9))) bg sx ro (nI len) wz, bl_W q ak (am 0) (ag 0) 6 (pz_fact n) fk wk rk T.1.length lk dk me ck, gq_W q ag (am 0) (pz_fact n) (2 ^ b) (32 - b) rl st3 sl3 G3.length, wz_rows 12 rl (fun i9 => .inl (q.1, pz_fact n, .inl (L3 i9))), mv_W q am n k rt fo, wz_rows 12 rt (fun i9 => .inl (q.1, 8, .inl (M i9)))]) [0, 5, 1, 2, 3, 4] rfl (by decide) rfl hP hD
          refine lv_istore_n (lv' := [(1, .int (nI j3)), (0, .ref (as9 0)), (2, .int (nI i))]) hx hb d_S_walkLeastRow_54 rfl hl (by decide) rfl (fun ls hl => ?_)
          refine lv_iinc (v := nI (i + 1)) (lv' := [(2, .int (nI (i + 1))), (1, .int (nI j3)), (0, .ref (as9 0))]) hx hb d_S_walkLeastRow_55 hl (k := 2) rfl (nI_1 i) (by decide) rfl (fun ls hl => ?_)
          refine lv_goto (tgt := 7) hx hb d_S_walkLeastRow_58 (by decide) ?_
          exact ih (i + 1) j3 G3 st3 sl3 L3 (upd rw1 i (nI (o * 15 + t9))) (pz_up mv9 i o) (pz_up tm9 i t9) (pz_up X9 (i + 1) (pz_it (bl_g n 0 sg tu o) t9 (X9 i))) (by omega) (by omega) (by rw [pz_up_s]; exact hj3) ⟨Na ++ (Nb ++ Nc), by rw [hNc, hNb, hNa, List.append_assoc, List.append_assoc]⟩ hok3 hT3 (by rw [pz_up_n _ _ (by omega)]; exact hX0) (fun i9 hi9 => by
            by_cases e0 : i9 = i
            · subst e0
              rw [pz_up_s, pz_up_s, pz_up_s, pz_up_n _ _ (show i9 ≠ i9 + 1 by omega)]
              exact ⟨hfst', rfl⟩
            · rw [pz_up_n mv9 _ e0, pz_up_n tm9 _ e0, pz_up_n X9 _ (show i9 ≠ i + 1 by omega), pz_up_n X9 _ (show i9 + 1 ≠ i + 1 by omega)]
              exact hrow i9 (by omega)) (by rw [pz_up_s]; exact hds') (by rw [pz_up_s, show len - (i + 1) = len - i - 1 by omega]; exact hdg') (fun i9 hi9 => by
            by_cases e0 : i9 = i
            · subst e0; rw [pk_us, pz_up_s, pz_up_s]
            · rw [pk_un e0, pz_up_n _ _ e0, pz_up_n _ _ e0]; exact hrw i9 (by omega)) _ _ _ hP hD hS (lv_sub hl [2, 1, 0] rfl)
  exact loop (len + 1) 0 ro G st sl L rw (fun _ => 0) (fun _ => 0) (fun _ => sa) (by omega) (by omega) hro ⟨[], by simp⟩ hok hblT rfl (fun i9 q => by omega) (pz_dist_self _ _) (by rw [Nat.sub_zero]; exact pz_dist_rev hrv hdist) (fun i9 q => by omega) _ _ _ hP hD hS (lv_sub hl [2, 1, 0] rfl)
