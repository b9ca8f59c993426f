/-! MODULE Moves: its cells, its contracts -/
theorem wz_L_ok : wz_L.all wz_isN = true := by decide +kernel
theorem wz_rows_iset {num n w j : Nat} {r : Nat → Nat} {M : Nat → Nat → Int32} {x : Int32} {c : ClassId} : (wz_rows num r (fun i => .inl (c, n, .inl (M i)))).set w (r w, .inl (c, n, .inl (upd (M w) j x))) = wz_rows num r (fun i => .inl (c, n, .inl (pz_up M w (upd (M w) j x) i))) := by
  rw [wz_rows_set]
  refine wz_rows_congr (fun i _ => ?_)
  by_cases h : i = w
  · subst h; rw [pz_up_s, pz_up_s]
  · rw [pz_up_n _ _ h, pz_up_n _ _ h]
def wz_bit (v : Int32) (P : Prop) : Prop := (v = 1 ∧ P) ∨ (v = 0 ∧ ¬ P)
theorem wz_bit_lt {x : Int32} {k : Nat} (h : x < 0) (hk : k < 2 ^ 31 := by omega) : wz_bit (nI 0) (∃ j, j < k ∧ x = nI j) := Or.inr ⟨rfl, fun ⟨j, hj, e⟩ => nI_pos (Nat.lt_trans hj hk) (e ▸ h)⟩
theorem wz_bit_ge {x : Int32} {k : Nat} (hk : k < 2 ^ 31) (h : nI k ≤ x) : wz_bit (nI 0) (∃ j, j < k ∧ x = nI j) := Or.inr ⟨rfl, fun ⟨j, hj, e⟩ => nI_ge hj hk (e ▸ h)⟩
theorem wz_bit_in {x : Int32} {k : Nat} (hk : k < 2 ^ 31) (h1 : ¬ x < 0) (h2 : ¬ nI k ≤ x) : wz_bit (nI 1) (∃ j, j < k ∧ x = nI j) := Or.inl ⟨rfl, by
  rcases pk_ix x hk with h | h | h
  · exact absurd h h1
  · exact absurd h h2
  · exact h⟩
def mv_W (q : wz_Q) (a : Nat → Nat) (n : Nat) (k : Nat) (r : Nat → Nat) (f : Nat → Int32) : va_W := [(a 0, .inr (0, [.int (nI n), .ref (a 1), .ref (a 2), .int (nI k)])), (a 1, .inl (q.2.2, wz_out 12 r)), (a 2, .inl (q.1, 6, .inl f))]
theorem d_M_has_0 : decode b_M_has 0 = .ok (.iload_n 1, 1) := by decide +kernel
theorem d_M_has_1 : decode b_M_has 1 = .ok (.ifCond .lt 15, 3) := by decide +kernel
theorem d_M_has_4 : decode b_M_has 4 = .ok (.iload_n 1, 1) := by decide +kernel
theorem d_M_has_5 : decode b_M_has 5 = .ok (.aload_n 0, 1) := by decide +kernel
theorem d_M_has_6 : decode b_M_has 6 = .ok (.getfield 24, 3) := by decide +kernel
theorem d_M_has_9 : decode b_M_has 9 = .ok (.if_icmp .ge 7, 3) := by decide +kernel
theorem d_M_has_12 : decode b_M_has 12 = .ok (.iconst 1, 1) := by decide +kernel
theorem d_M_has_13 : decode b_M_has 13 = .ok (.goto 4, 3) := by decide +kernel
theorem d_M_has_16 : decode b_M_has 16 = .ok (.iconst 0, 1) := by decide +kernel
theorem d_M_has_17 : decode b_M_has 17 = .ok (.ireturn, 1) := by decide +kernel
theorem d_M_isPlace_0 : decode b_M_isPlace 0 = .ok (.iload_n 1, 1) := by decide +kernel
theorem d_M_isPlace_1 : decode b_M_isPlace 1 = .ok (.ifCond .lt 15, 3) := by decide +kernel
theorem d_M_isPlace_4 : decode b_M_isPlace 4 = .ok (.iload_n 1, 1) := by decide +kernel
theorem d_M_isPlace_5 : decode b_M_isPlace 5 = .ok (.aload_n 0, 1) := by decide +kernel
theorem d_M_isPlace_6 : decode b_M_isPlace 6 = .ok (.getfield 20, 3) := by decide +kernel
theorem d_M_isPlace_9 : decode b_M_isPlace 9 = .ok (.if_icmp .ge 7, 3) := by decide +kernel
theorem d_M_isPlace_12 : decode b_M_isPlace 12 = .ok (.iconst 1, 1) := by decide +kernel
theorem d_M_isPlace_13 : decode b_M_isPlace 13 = .ok (.goto 4, 3) := by decide +kernel
theorem d_M_isPlace_16 : decode b_M_isPlace 16 = .ok (.iconst 0, 1) := by decide +kernel
theorem d_M_isPlace_17 : decode b_M_isPlace 17 = .ok (.ireturn, 1) := by decide +kernel
theorem d_M_orderOf_0 : decode b_M_orderOf 0 = .ok (.aload_n 0, 1) := by decide +kernel
theorem d_M_orderOf_1 : decode b_M_orderOf 1 = .ok (.getfield 16, 3) := by decide +kernel
theorem d_M_orderOf_4 : decode b_M_orderOf 4 = .ok (.iload_n 1, 1) := by decide +kernel
theorem d_M_orderOf_5 : decode b_M_orderOf 5 = .ok (.iaload, 1) := by decide +kernel
theorem d_M_orderOf_6 : decode b_M_orderOf 6 = .ok (.ireturn, 1) := by decide +kernel
theorem d_M_mostTimes_0 : decode b_M_mostTimes 0 = .ok (.iload_n 1, 1) := by decide +kernel
theorem d_M_mostTimes_1 : decode b_M_mostTimes 1 = .ok (.ifCond .ne 7, 3) := by decide +kernel
theorem d_M_mostTimes_4 : decode b_M_mostTimes 4 = .ok (.iconst 1, 1) := by decide +kernel
theorem d_M_mostTimes_5 : decode b_M_mostTimes 5 = .ok (.goto 11, 3) := by decide +kernel
theorem d_M_mostTimes_8 : decode b_M_mostTimes 8 = .ok (.aload_n 0, 1) := by decide +kernel
theorem d_M_mostTimes_9 : decode b_M_mostTimes 9 = .ok (.getfield 16, 3) := by decide +kernel
theorem d_M_mostTimes_12 : decode b_M_mostTimes 12 = .ok (.iload_n 2, 1) := by decide +kernel
theorem d_M_mostTimes_13 : decode b_M_mostTimes 13 = .ok (.iaload, 1) := by decide +kernel
theorem d_M_mostTimes_14 : decode b_M_mostTimes 14 = .ok (.iconst 1, 1) := by decide +kernel
theorem d_M_mostTimes_15 : decode b_M_mostTimes 15 = .ok (.isub, 1) := by decide +kernel
theorem d_M_mostTimes_16 : decode b_M_mostTimes 16 = .ok (.ireturn, 1) := by decide +kernel
theorem d_M_dropAll_0 : decode b_M_dropAll 0 = .ok (.aload_n 0, 1) := by decide +kernel
theorem d_M_dropAll_1 : decode b_M_dropAll 1 = .ok (.iconst 0, 1) := by decide +kernel
theorem d_M_dropAll_2 : decode b_M_dropAll 2 = .ok (.putfield 24, 3) := by decide +kernel
theorem d_M_dropAll_5 : decode b_M_dropAll 5 = .ok (.return_, 1) := by decide +kernel
theorem d_M_aim_0 : decode b_M_aim 0 = .ok (.aload_n 0, 1) := by decide +kernel
theorem d_M_aim_1 : decode b_M_aim 1 = .ok (.getfield 11, 3) := by decide +kernel
theorem d_M_aim_4 : decode b_M_aim 4 = .ok (.iload_n 1, 1) := by decide +kernel
theorem d_M_aim_5 : decode b_M_aim 5 = .ok (.aaload, 1) := by decide +kernel
theorem d_M_aim_6 : decode b_M_aim 6 = .ok (.iload_n 2, 1) := by decide +kernel
theorem d_M_aim_7 : decode b_M_aim 7 = .ok (.iload_n 3, 1) := by decide +kernel
theorem d_M_aim_8 : decode b_M_aim 8 = .ok (.iastore, 1) := by decide +kernel
theorem d_M_aim_9 : decode b_M_aim 9 = .ok (.aload_n 0, 1) := by decide +kernel
theorem d_M_aim_10 : decode b_M_aim 10 = .ok (.getfield 11, 3) := by decide +kernel
theorem d_M_aim_13 : decode b_M_aim 13 = .ok (.iload_n 1, 1) := by decide +kernel
theorem d_M_aim_14 : decode b_M_aim 14 = .ok (.bipush 6, 2) := by decide +kernel
theorem d_M_aim_16 : decode b_M_aim 16 = .ok (.iadd, 1) := by decide +kernel
theorem d_M_aim_17 : decode b_M_aim 17 = .ok (.aaload, 1) := by decide +kernel
theorem d_M_aim_18 : decode b_M_aim 18 = .ok (.iload_n 3, 1) := by decide +kernel
theorem d_M_aim_19 : decode b_M_aim 19 = .ok (.iload_n 2, 1) := by decide +kernel
theorem d_M_aim_20 : decode b_M_aim 20 = .ok (.iastore, 1) := by decide +kernel
theorem d_M_aim_21 : decode b_M_aim 21 = .ok (.return_, 1) := by decide +kernel
theorem kw_60 : (Cond.fieldLink "TwoEndSearch$Moves" 20 "TwoEndSearch$Moves" "places" "I" : Cond) ∈ bigW := bigW_of 60 (by decide +kernel) (by decide +kernel)
theorem kw_61 : (Cond.fieldLink "TwoEndSearch$Moves" 11 "TwoEndSearch$Moves" "targets" "[[I" : Cond) ∈ bigW := bigW_of 61 (by decide +kernel) (by decide +kernel)
theorem kw_62 : (Cond.fieldLink "TwoEndSearch$Moves" 16 "TwoEndSearch$Moves" "orders" "[I" : Cond) ∈ bigW := bigW_of 62 (by decide +kernel) (by decide +kernel)
theorem kw_63 : (Cond.fieldLink "TwoEndSearch$Moves" 24 "TwoEndSearch$Moves" "count" "I" : Cond) ∈ bigW := bigW_of 63 (by decide +kernel) (by decide +kernel)
def po_M_has (q : wz_Q) (a : Nat → Nat) (n k : Nat) (r : Nat → Nat) (f : Nat → Int32) (x : Int32) : Int32 → wz_G → Prop := fun v w => w = [mv_W q a n k r f] ∧ wz_bit v (∃ j, j < k ∧ x = nI j)
set_option maxHeartbeats 4000000 in
set_option maxRecDepth 100000 in
/-- M_has -/
theorem c_M_has (l : Launch) (D : va_G) (q : wz_Q) (a : Nat → Nat) (n k : Nat) (r : Nat → Nat) (f : Nat → Int32) (x : Int32) (hk : k ≤ 6) : wz_Mi l y_M_has ws_M_has ({ frames := 0, cells := 0, slots := 0, locals := 0 } : Room) D q ([.ref (a 0), .int x] : List Value) [mv_W q a n k r f] (po_M_has q a n k r f x) 0 0 := by
  intro sz9
  refine wz_enter (cc := b_M_has) (maxL := 2) (ret := (some .boolean)) (Qc := fun A => (va_Qi (po_M_has q a n k r f x) (wz_At D q A) A)) (by decide) (Nat.le_of_ble_eq_true rfl) ?_
  intro p e s m below meth c A ls C hP hD hS hl
  obtain ⟨hx, hb, hr, hml, hlocks, hown, hts, hN, hK, hA, hnm⟩ := C
  have hown : s.vm.findClass "TwoEndSearch$Moves" = some m.cls := hown
  have hl : lv_has ls 2 [(0, .ref (a 0)), (1, .int x)] := hl
  refine lv_iload_n hx hb d_M_has_0 rfl (lv_at hl 1 rfl) ?_
  refine lv_if_lt (tgt := 16) hx hb d_M_has_1 (by decide) (fun hc => ?_) (fun hc => ?_)
  · skip
    refine lv_iconst (v := nI 0) hx hb d_M_has_16 (by decide) ?_
    exact wz_zret hx hb hr hlocks hK hP hD hS d_M_has_17 (by first | exact Or.inl rfl | exact Or.inr rfl) ⟨rfl, wz_bit_lt hc⟩
  · skip
    refine lv_iload_n hx hb d_M_has_4 rfl (lv_at hl 1 rfl) ?_
    refine lv_aload_n hx hb d_M_has_5 rfl (lv_at hl 0 rfl) ?_
    refine wz_get (v := .int (nI k)) (T := T_M) (N := 4) hx hb hts i_M hown hK hP 0 0 rfl rfl rfl 3 (by decide) (hts _ kw_63) rfl rfl d_M_has_6 ?_
    refine lv_icmp_ge (tgt := 16) hx hb d_M_has_9 (by decide) (fun hc2 => ?_) (fun hc2 => ?_)
    · skip
      refine lv_iconst (v := nI 0) hx hb d_M_has_16 (by decide) ?_
      exact wz_zret hx hb hr hlocks hK hP hD hS d_M_has_17 (by first | exact Or.inl rfl | exact Or.inr rfl) ⟨rfl, wz_bit_ge (by omega) hc2⟩
    · skip
      refine lv_iconst (v := nI 1) hx hb d_M_has_12 (by decide) ?_
      refine lv_goto (tgt := 17) hx hb d_M_has_13 (by decide) ?_
      exact wz_zret hx hb hr hlocks hK hP hD hS d_M_has_17 (by first | exact Or.inl rfl | exact Or.inr rfl) ⟨rfl, wz_bit_in (by omega) hc hc2⟩
def po_M_isPlace (q : wz_Q) (a : Nat → Nat) (n k : Nat) (r : Nat → Nat) (f : Nat → Int32) (x : Int32) : Int32 → wz_G → Prop := fun v w => w = [mv_W q a n k r f] ∧ wz_bit v (∃ j, j < n ∧ x = nI j)
set_option maxHeartbeats 4000000 in
set_option maxRecDepth 100000 in
/-- M_isPlace -/
theorem c_M_isPlace (l : Launch) (D : va_G) (q : wz_Q) (a : Nat → Nat) (n k : Nat) (r : Nat → Nat) (f : Nat → Int32) (x : Int32) (hn : n ≤ 8) : wz_Mi l y_M_isPlace ws_M_isPlace ({ frames := 0, cells := 0, slots := 0, locals := 0 } : Room) D q ([.ref (a 0), .int x] : List Value) [mv_W q a n k r f] (po_M_isPlace q a n k r f x) 0 0 := by
  intro sz9
  refine wz_enter (cc := b_M_isPlace) (maxL := 2) (ret := (some .boolean)) (Qc := fun A => (va_Qi (po_M_isPlace q a n k r f x) (wz_At D q A) A)) (by decide) (Nat.le_of_ble_eq_true rfl) ?_
  intro p e s m below meth c A ls C hP hD hS hl
  obtain ⟨hx, hb, hr, hml, hlocks, hown, hts, hN, hK, hA, hnm⟩ := C
  have hown : s.vm.findClass "TwoEndSearch$Moves" = some m.cls := hown
  have hl : lv_has ls 2 [(0, .ref (a 0)), (1, .int x)] := hl
  refine lv_iload_n hx hb d_M_isPlace_0 rfl (lv_at hl 1 rfl) ?_
  refine lv_if_lt (tgt := 16) hx hb d_M_isPlace_1 (by decide) (fun hc => ?_) (fun hc => ?_)
  · skip
    refine lv_iconst (v := nI 0) hx hb d_M_isPlace_16 (by decide) ?_
    exact wz_zret hx hb hr hlocks hK hP hD hS d_M_isPlace_17 (by first | exact Or.inl rfl | exact Or.inr rfl) ⟨rfl, wz_bit_lt hc⟩
  · skip
    refine lv_iload_n hx hb d_M_isPlace_4 rfl (lv_at hl 1 rfl) ?_
    refine lv_aload_n hx hb d_M_isPlace_5 rfl (lv_at hl 0 rfl) ?_
    refine wz_get (v := .int (nI n)) (T := T_M) (N := 4) hx hb hts i_M hown hK hP 0 0 rfl rfl rfl 0 (by decide) (hts _ kw_60) rfl rfl d_M_isPlace_6 ?_
    refine lv_icmp_ge (tgt := 16) hx hb d_M_isPlace_9 (by decide) (fun hc2 => ?_) (fun hc2 => ?_)
    · skip
      refine lv_iconst (v := nI 0) hx hb d_M_isPlace_16 (by decide) ?_
      exact wz_zret hx hb hr hlocks hK hP hD hS d_M_isPlace_17 (by first | exact Or.inl rfl | exact Or.inr rfl) ⟨rfl, wz_bit_ge (by omega) hc2⟩
    · skip
      refine lv_iconst (v := nI 1) hx hb d_M_isPlace_12 (by decide) ?_
      refine lv_goto (tgt := 17) hx hb d_M_isPlace_13 (by decide) ?_
      exact wz_zret hx hb hr hlocks hK hP hD hS d_M_isPlace_17 (by first | exact Or.inl rfl | exact Or.inr rfl) ⟨rfl, wz_bit_in (by omega) hc hc2⟩
def po_M_orderOf (q : wz_Q) (a : Nat → Nat) (n k : Nat) (r : Nat → Nat) (f : Nat → Int32) (j : Nat) : Int32 → wz_G → Prop := fun v w => w = [mv_W q a n k r f] ∧ v = f j
set_option maxHeartbeats 4000000 in
set_option maxRecDepth 100000 in
/-- a move's order -/
theorem c_M_orderOf (l : Launch) (D : va_G) (q : wz_Q) (a : Nat → Nat) (n k : Nat) (r : Nat → Nat) (f : Nat → Int32) (j : Nat) (hj : j < 6) : wz_Mi l y_M_orderOf ws_M_orderOf ({ frames := 0, cells := 0, slots := 0, locals := 0 } : Room) D q ([.ref (a 0), .int (nI j)] : List Value) [mv_W q a n k r f] (po_M_orderOf q a n k r f j) 0 0 := by
  intro sz9
  refine wz_enter (cc := b_M_orderOf) (maxL := 2) (ret := (some .int)) (Qc := fun A => (va_Qi (po_M_orderOf q a n k r f j) (wz_At D q A) A)) (by decide) (Nat.le_of_ble_eq_true rfl) ?_
  intro p e s m below meth c A ls C hP hD hS hl
  obtain ⟨hx, hb, hr, hml, hlocks, hown, hts, hN, hK, hA, hnm⟩ := C
  have hown : s.vm.findClass "TwoEndSearch$Moves" = some m.cls := hown
  have hl : lv_has ls 2 [(0, .ref (a 0)), (1, .int (nI j))] := hl
  refine lv_aload_n hx hb d_M_orderOf_0 rfl (lv_at hl 0 rfl) ?_
  refine wz_get (v := .ref (a 2)) (T := T_M) (N := 4) hx hb hts i_M hown hK hP 0 0 rfl rfl rfl 2 (by decide) (hts _ kw_62) rfl rfl d_M_orderOf_1 ?_
  refine lv_iload_n hx hb d_M_orderOf_4 rfl (lv_at hl 1 rfl) ?_
  refine wz_iald hx hb hK hP 0 2 (j := j) rfl rfl (by omega) (by decide) d_M_orderOf_5 ?_
  exact wz_iret hx hb hr hlocks hK hP hD hS d_M_orderOf_6 ⟨rfl, rfl⟩
def po_M_mostTimes (q : wz_Q) (a : Nat → Nat) (n k : Nat) (r : Nat → Nat) (f : Nat → Int32) (x : Int32) (j : Nat) : Int32 → wz_G → Prop := fun v w => w = [mv_W q a n k r f] ∧ v = if x = 0 then nI 1 else f j - nI 1
set_option maxHeartbeats 4000000 in
set_option maxRecDepth 100000 in
/-- how often a step may do a move -/
theorem c_M_mostTimes (l : Launch) (D : va_G) (q : wz_Q) (a : Nat → Nat) (n k : Nat) (r : Nat → Nat) (f : Nat → Int32) (x : Int32) (j : Nat) (hj : j < 6) : wz_Mi l y_M_mostTimes ws_M_mostTimes ({ frames := 0, cells := 0, slots := 0, locals := 0 } : Room) D q ([.ref (a 0), .int x, .int (nI j)] : List Value) [mv_W q a n k r f] (po_M_mostTimes q a n k r f x j) 0 0 := by
  intro sz9
  refine wz_enter (cc := b_M_mostTimes) (maxL := 3) (ret := (some .int)) (Qc := fun A => (va_Qi (po_M_mostTimes q a n k r f x j) (wz_At D q A) A)) (by decide) (Nat.le_of_ble_eq_true rfl) ?_
  intro p e s m below meth c A ls C hP hD hS hl
  obtain ⟨hx, hb, hr, hml, hlocks, hown, hts, hN, hK, hA, hnm⟩ := C
  have hown : s.vm.findClass "TwoEndSearch$Moves" = some m.cls := hown
  have hl : lv_has ls 3 [(0, .ref (a 0)), (1, .int x), (2, .int (nI j))] := hl
  refine lv_iload_n hx hb d_M_mostTimes_0 rfl (lv_at hl 1 rfl) ?_
  refine lv_if_ne (tgt := 8) hx hb d_M_mostTimes_1 (by decide) (fun hc => ?_) (fun hc => ?_)
  · skip
    refine lv_aload_n hx hb d_M_mostTimes_8 rfl (lv_at hl 0 rfl) ?_
    refine wz_get (v := .ref (a 2)) (T := T_M) (N := 4) hx hb hts i_M hown hK hP 0 0 rfl rfl rfl 2 (by decide) (hts _ kw_62) rfl rfl d_M_mostTimes_9 ?_
    refine lv_iload_n hx hb d_M_mostTimes_12 rfl (lv_at hl 2 rfl) ?_
    refine wz_iald hx hb hK hP 0 2 (j := j) rfl rfl (by omega) (by decide) d_M_mostTimes_13 ?_
    refine lv_iconst (v := nI 1) hx hb d_M_mostTimes_14 (by decide) ?_
    refine lv_isub hx hb d_M_mostTimes_15 ?_
    exact wz_iret hx hb hr hlocks hK hP hD hS d_M_mostTimes_16 ⟨rfl, (if_neg hc).symm⟩
  · skip
    refine lv_iconst (v := nI 1) hx hb d_M_mostTimes_4 (by decide) ?_
    refine lv_goto (tgt := 16) hx hb d_M_mostTimes_5 (by decide) ?_
    exact wz_iret hx hb hr hlocks hK hP hD hS d_M_mostTimes_16 ⟨rfl, (if_pos hc).symm⟩
def po_M_dropAll (q : wz_Q) (a : Nat → Nat) (n k : Nat) (r : Nat → Nat) (f : Nat → Int32) : wz_G → Prop := fun w => w = [mv_W q a n 0 r f]
set_option maxHeartbeats 4000000 in
set_option maxRecDepth 100000 in
/-- no moves -/
theorem c_M_dropAll (l : Launch) (D : va_G) (q : wz_Q) (a : Nat → Nat) (n k : Nat) (r : Nat → Nat) (f : Nat → Int32)  : wz_Mv l y_M_dropAll ws_M_dropAll ({ frames := 0, cells := 0, slots := 0, locals := 0 } : Room) D q ([.ref (a 0)] : List Value) [mv_W q a n k r f] (po_M_dropAll q a n k r f) 0 0 := by
  intro sz9
  refine wz_enter (cc := b_M_dropAll) (maxL := 1) (ret := none) (Qc := fun A => (va_Qv (po_M_dropAll q a n k r f) (wz_At D q A) A)) (by decide) (Nat.le_of_ble_eq_true rfl) ?_
  intro p e s m below meth c A ls C hP hD hS hl
  obtain ⟨hx, hb, hr, hml, hlocks, hown, hts, hN, hK, hA, hnm⟩ := C
  have hown : s.vm.findClass "TwoEndSearch$Moves" = some m.cls := hown
  have hl : lv_has ls 1 [(0, .ref (a 0))] := hl
  refine lv_aload_n hx hb d_M_dropAll_0 rfl (lv_at hl 0 rfl) ?_
  refine lv_iconst (v := nI 0) hx hb d_M_dropAll_1 (by decide) ?_
  refine wz_put (gs' := [mv_W q a n 0 r f]) (v := .int (nI 0)) (T := T_M) (N := 4) hx hb hts i_M t_M t_M_ok n_M hown hK hP hD hS 0 0 rfl rfl rfl 3 (by decide) (hts _ kw_63) rfl rfl (ty := t_M 3) (by decide +kernel) rfl rfl (Nat.le_of_ble_eq_true rfl) d_M_dropAll_2 rfl (fun H locs hP hD hS => ?_)
  exact wz_vret hx hb hr hlocks hK hP hD hS d_M_dropAll_5 rfl
def po_M_aim (q : wz_Q) (a : Nat → Nat) (n k : Nat) (r : Nat → Nat) (f : Nat → Int32) (M : Nat → Nat → Int32) (o x y : Nat) : wz_G → Prop := fun w => w = [mv_W q a n k r f, wz_rows 12 r (fun i9 => .inl (q.1, 8, .inl ((pz_up (pz_up M o (upd (M o) x (nI y))) (o + 6) (upd (pz_up M o (upd (M o) x (nI y)) (o + 6)) y (nI x))) i9)))]
set_option maxHeartbeats 4000000 in
set_option maxRecDepth 100000 in
/-- a move brings x to y, undone it brings y to x -/
theorem c_M_aim (l : Launch) (D : va_G) (q : wz_Q) (a : Nat → Nat) (n k : Nat) (r : Nat → Nat) (f : Nat → Int32) (M : Nat → Nat → Int32) (o x y : Nat) (ho : o < 6) (hx8 : x < 8) (hy8 : y < 8) : wz_Mv l y_M_aim ws_M_aim ({ frames := 0, cells := 0, slots := 0, locals := 0 } : Room) D q ([.ref (a 0), .int (nI o), .int (nI x), .int (nI y)] : List Value) [mv_W q a n k r f, wz_rows 12 r (fun i9 => .inl (q.1, 8, .inl (M i9)))] (po_M_aim q a n k r f M o x y) 0 0 := by
  intro sz9
  refine wz_enter (cc := b_M_aim) (maxL := 4) (ret := none) (Qc := fun A => (va_Qv (po_M_aim q a n k r f M o x y) (wz_At D q A) A)) (by decide) (Nat.le_of_ble_eq_true rfl) ?_
  intro p e s m below meth c A ls C hP hD hS hl
  obtain ⟨hx, hb, hr, hml, hlocks, hown, hts, hN, hK, hA, hnm⟩ := C
  have hown : s.vm.findClass "TwoEndSearch$Moves" = some m.cls := hown
  have hl : lv_has ls 4 [(0, .ref (a 0)), (1, .int (nI o)), (2, .int (nI x)), (3, .int (nI y))] := hl
  refine lv_aload_n hx hb d_M_aim_0 rfl (lv_at hl 0 rfl) ?_
  refine wz_get (v := .ref (a 1)) (T := T_M) (N := 4) hx hb hts i_M hown hK hP 0 0 rfl rfl rfl 1 (by decide) (hts _ kw_61) rfl rfl d_M_aim_1 ?_
  refine lv_iload_n hx hb d_M_aim_4 rfl (lv_at hl 1 rfl) ?_
  refine wz_aald hx hb hK hP 0 1 (j := o) (r := r) rfl rfl (by omega) (by decide) d_M_aim_5 ?_
  refine lv_iload_n hx hb d_M_aim_6 rfl (lv_at hl 2 rfl) ?_
  refine lv_iload_n hx hb d_M_aim_7 rfl (lv_at hl 3 rfl) ?_
  refine wz_iast (gs' := [mv_W q a n k r f, wz_rows 12 r (fun i9 => .inl (q.1, 8, .inl ((pz_up M o (upd (M o) x (nI y))) i9)))]) hx hb hK hP hD hS 1 o (j := x) rfl (wz_rows_get (by omega)) (by omega) (by decide) d_M_aim_8 (by rw [wz_rows_iset]; rfl) (fun H locs hP hD hS => ?_)
  refine lv_aload_n hx hb d_M_aim_9 rfl (lv_at hl 0 rfl) ?_
  refine wz_get (v := .ref (a 1)) (T := T_M) (N := 4) hx hb hts i_M hown hK hP 0 0 rfl rfl rfl 1 (by decide) (hts _ kw_61) rfl rfl d_M_aim_10 ?_
  refine lv_iload_n hx hb d_M_aim_13 rfl (lv_at hl 1 rfl) ?_
  refine lv_bipush (v := nI 6) hx hb d_M_aim_14 (by decide) ?_
  refine lv_iadd hx hb d_M_aim_16 ?_
  refine wz_topi (y := nI (o + 6)) (nI_add o 6) ?_
  refine wz_aald hx hb hK hP 0 1 (j := (o + 6)) (r := r) rfl rfl (by omega) (by decide) d_M_aim_17 ?_
  refine lv_iload_n hx hb d_M_aim_18 rfl (lv_at hl 3 rfl) ?_
  refine lv_iload_n hx hb d_M_aim_19 rfl (lv_at hl 2 rfl) ?_
  refine wz_iast (gs' := [mv_W q a n k r f, wz_rows 12 r (fun i9 => .inl (q.1, 8, .inl ((pz_up (pz_up M o (upd (M o) x (nI y))) (o + 6) (upd ((pz_up M o (upd (M o) x (nI y))) (o + 6)) y (nI x))) i9)))]) hx hb hK hP hD hS 1 (o + 6) (j := y) rfl (wz_rows_get (by omega)) (by omega) (by decide) d_M_aim_20 (by rw [wz_rows_iset]; rfl) (fun H locs hP hD hS => ?_)
  exact wz_vret hx hb hr hlocks hK hP hD hS d_M_aim_21 rfl
