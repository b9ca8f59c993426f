/-! PURE: the states of shortest rows, led back from the ball around the goal; the least row -/
/-- one more state, if it lies f steps from the start -/
def pz_lead (SA : pz_S) (f e : Nat) (T : pz_S) (y : Nat) : pz_S := if SA.2.1 y = some f then pz_take e T y else T
theorem pz_take_1 (d : Nat) (S : pz_S) (x : Nat) : (pz_take d S x).1 = if S.2.1 x = none then S.1 ++ [x] else S.1 := by
  unfold pz_take
  by_cases h : S.2.1 x = none <;> simp [h]
theorem pz_take_2 (d : Nat) (S : pz_S) (x c : Nat) : (pz_take d S x).2.1 c = if c = x ∧ S.2.1 x = none then some d else S.2.1 c := by
  unfold pz_take
  by_cases h : S.2.1 x = none
  · simp [h, pz_up]
  · simp [h]
theorem pz_take_ok {d : Nat} {S : pz_S} {x : Nat} (h : pz_ok S) : pz_ok (pz_take d S x) := by
  obtain ⟨h1, h2⟩ := h
  refine ⟨?_, fun c => ?_⟩
  · rw [pz_take_1]
    by_cases e : S.2.1 x = none
    · rw [if_pos e]
      have hx : x ∉ S.1 := fun hm => (h2 x).mp hm e
      refine List.nodup_append.mpr ⟨h1, by simp, fun a ha b hb => ?_⟩
      rw [List.mem_singleton.mp hb]
      exact fun e2 => hx (e2 ▸ ha)
    · rw [if_neg e]; exact h1
  · rw [pz_take_1, pz_take_2]
    by_cases e : S.2.1 x = none
    · rw [if_pos e, List.mem_append, List.mem_singleton]
      by_cases hc : c = x
      · simp [hc, e]
      · simp [hc, h2 c]
    · rw [if_neg e, if_neg (fun q => e q.2)]
      exact h2 c
/-- j states of the table have been led back from -/
def pz_ld (s r : Nat → List Nat) (a g len nB dB : Nat) (SA SB : pz_S) (j : Nat) (T : pz_S) : Prop :=
  pz_ok T ∧ (∃ N : List Nat, T.1 = SB.1 ++ N) ∧ (∀ c e, SB.2.1 c = some e → T.2.1 c = some e) ∧ (∀ c e, T.2.1 c = some e → pz_dist r g c e) ∧
  (∀ c e, T.2.1 c = some e → SB.2.1 c = none → dB < e) ∧
  (∀ i x e f y, nB ≤ i → i < j → T.1[i]? = some x → T.2.1 x = some e → SA.2.1 x = some (f + 1) → f + 1 + e = len → y ∈ r x → SA.2.1 y = some f → T.2.1 y ≠ none)
theorem pz_ld_0 {s r : Nat → List Nat} {a g len nB dB : Nat} {cm : Bool} {SA SB : pz_S} (hB : pz_ball r g nB dB cm SB) : pz_ld s r a g len nB dB SA SB nB SB :=
  ⟨hB.1.1, ⟨[], by simp⟩, fun _ _ h => h, fun _ _ h => pz_ball_exact hB h, fun c e h h0 => absurd h0 (pz_sn h), fun i x e f y h1 h2 => by omega⟩
/-- one state y, reached from x against a step -/
theorem pz_ld_one {s r : Nat → List Nat} (hr : ∀ a b, pz_cnt b (s a) = pz_cnt a (r b)) {a g len nB dB nA dA j : Nat} {cm : Bool} {SA SB T : pz_S} (hA : pz_ball s a nA dA cm SA) (hlen : pz_dist s a g len) (h : pz_ld s r a g len nB dB SA SB j T) (hjl : j ≤ T.1.length) {x y e f : Nat} (hxe : T.2.1 x = some e) (hdB : dB ≤ e) (hfe : f + 1 + e = len) (hy : y ∈ r x) : pz_ld s r a g len nB dB SA SB j (pz_lead SA f (e + 1) T y) ∧ (SA.2.1 y = some f → (pz_lead SA f (e + 1) T y).2.1 y ≠ none) ∧ (∀ c d, T.2.1 c = some d → (pz_lead SA f (e + 1) T y).2.1 c = some d) ∧ (∃ N : List Nat, (pz_lead SA f (e + 1) T y).1 = T.1 ++ N) := by
  unfold pz_lead
  by_cases q : SA.2.1 y = some f
  · rw [if_pos q]
    obtain ⟨h1, ⟨N, hN⟩, h3, h4, h5, h6⟩ := h
    have hk : ∀ c d, T.2.1 c = some d → (pz_take (e + 1) T y).2.1 c = some d := fun c d hc => by
      rw [pz_take_2]
      by_cases z : c = y ∧ T.2.1 y = none
      · rw [z.1, z.2] at hc; cases hc
      · rw [if_neg z]; exact hc
    have hpre : ∃ N : List Nat, (pz_take (e + 1) T y).1 = T.1 ++ N := by
      rw [pz_take_1]
      by_cases z : T.2.1 y = none
      · rw [if_pos z]; exact ⟨_, rfl⟩
      · rw [if_neg z]; exact ⟨[], by simp⟩
    have hdy : pz_dist r g y (e + 1) := by
      refine ⟨List.mem_flatMap.mpr ⟨x, (h4 x e hxe).1, hy⟩, fun k hk2 hm => ?_⟩
      have h7 : g ∈ pz_ends s y k := pz_rev_mem (fun u v => (hr v u).symm) hm
      refine hlen.2 (f + k) (by omega) ?_
      rw [pz_ends_add]
      exact List.mem_flatMap.mpr ⟨y, (pz_ball_exact hA q).1, h7⟩
    refine ⟨⟨pz_take_ok h1, ?_, fun c d hc => hk c d (h3 c d hc), fun c d hc => ?_, fun c d hc h0 => ?_, fun i z d f' y' hi hij hz hd hf hlen' hy' hfy => ?_⟩, fun _ => ?_, hk, hpre⟩
    · obtain ⟨N', hN'⟩ := hpre
      exact ⟨N ++ N', by rw [hN', hN, List.append_assoc]⟩
    · rw [pz_take_2] at hc
      by_cases z : c = y ∧ T.2.1 y = none
      · rw [if_pos z] at hc
        cases hc
        rw [z.1]; exact hdy
      · rw [if_neg z] at hc; exact h4 c d hc
    · rw [pz_take_2] at hc
      by_cases z : c = y ∧ T.2.1 y = none
      · rw [if_pos z] at hc
        cases hc
        omega
      · rw [if_neg z] at hc; exact h5 c d hc h0
    · have hzT : T.1[i]? = some z ∨ T.1.length ≤ i := by
        by_cases w : i < T.1.length
        · obtain ⟨N', hN'⟩ := hpre
          rw [hN', List.getElem?_append_left w] at hz
          exact Or.inl hz
        · exact Or.inr (by omega)
      rcases hzT with hzT | hzT
      · obtain ⟨d', hd'⟩ := pz_mem_far h1 (List.mem_of_getElem? hzT)
        have : d' = d := Option.some.inj ((hk z d' hd').symm.trans hd)
        subst this
        have h8 := h6 i z d' f' y' hi hij hzT hd' hf hlen' hy' hfy
        cases hT : T.2.1 y' with
        | none => exact absurd hT h8
        | some w => rw [hk y' w hT]; exact fun q => by cases q
      · exfalso
        omega
    · rw [pz_take_2]
      by_cases z : T.2.1 y = none
      · rw [if_pos ⟨rfl, z⟩]; exact fun q => by cases q
      · rw [if_neg (fun q => z q.2)]; exact z
  · rw [if_neg q]
    exact ⟨h, fun z => absurd z q, fun _ _ hc => hc, ⟨[], by simp⟩⟩
/-- all that lies on a shortest row, once every state has been led back from -/
theorem pz_ld_all {s r : Nat → List Nat} (hr : ∀ a b, pz_cnt b (s a) = pz_cnt a (r b)) {a g len nB dB nA dA i : Nat} {cm cm' : Bool} {SA SB T : pz_S} (hA : pz_ball s a nA dA cm SA) (hB : pz_ball r g nB dB cm' SB) (hlen : pz_dist s a g len) (hi : len = i + dB) (hid : i ≤ dA) (h : pz_ld s r a g len nB dB SA SB T.1.length T) : ∀ (e x f : Nat), pz_dist s a x f → pz_dist r g x e → f + e = len → T.2.1 x = some e := by
  intro e
  induction e with
  | zero =>
    intro x f _ hx _
    exact h.2.2.1 x 0 (pz_ball_near hB (Or.inl (Nat.zero_le _)) hx)
  | succ e ih =>
    intro x f hf hx hfe
    by_cases hd : e + 1 ≤ dB
    · exact h.2.2.1 x (e + 1) (pz_ball_near hB (Or.inl hd) hx)
    · obtain ⟨y, hy, hxy⟩ := List.mem_flatMap.mp hx.1
      have hgy : g ∈ pz_ends s y e := pz_rev_mem (fun u v => (hr v u).symm) hy
      have hys : y ∈ s x := pz_cnt_mem (by rw [hr]; have := pz_cnt_pos hxy; omega)
      have hay : y ∈ pz_ends s a (f + 1) := List.mem_flatMap.mpr ⟨x, hf.1, hys⟩
      have hlen' : pz_dist s a g (f + 1 + e) := by rw [show f + 1 + e = len by omega]; exact hlen
      obtain ⟨m1, m2⟩ := pz_dist_mid hlen' hay hgy
      have hTy := ih y (f + 1) m1 (pz_dist_rev hr m2) (by omega)
      have hAy := pz_ball_near hA (Or.inl (by omega)) m1
      have hAx := pz_ball_near hA (Or.inl (by omega)) hf
      obtain ⟨j, hj⟩ := List.getElem?_of_mem (pz_far_mem h.1 hTy)
      have hjn : nB ≤ j := by
        by_cases w : nB ≤ j
        · exact w
        · exfalso
          obtain ⟨N, hN⟩ := h.2.1
          have hl := hB.2.1
          rw [hN, List.getElem?_append_left (by omega)] at hj
          obtain ⟨e', he'⟩ := pz_mem_far hB.1.1 (List.mem_of_getElem? hj)
          have h1 := hB.2.2.1 j y e' (by omega) hj he'
          have h2 := Option.some.inj ((h.2.2.1 y e' he').symm.trans hTy)
          omega
      have hne := h.2.2.2.2.2 j y e f x hjn (List.getElem?_eq_some_iff.mp hj).1 hj hTy hAy (by omega) hxy hAx
      obtain ⟨e', he'⟩ : ∃ e', T.2.1 x = some e' := by
        cases hT : T.2.1 x with
        | none => exact absurd hT hne
        | some w => exact ⟨w, rfl⟩
      rw [he', pz_dist_eq (h.2.2.2.1 x e' he') hx]
/-- the first step, by the move's number and then by how often, with a property -/
def pz_fst (k : Nat) (mt : Nat → Nat) (P : Nat → Nat → Prop) (m t : Nat) : Prop := m < k ∧ 0 < t ∧ t ≤ mt m ∧ P m t ∧ ∀ m' t', 0 < t' → t' ≤ mt m' → m' < m ∨ (m' = m ∧ t' < t) → ¬ P m' t'
theorem pz_fst_eq {k : Nat} {mt : Nat → Nat} {P P' : Nat → Nat → Prop} (hP : ∀ m t, m < k → 0 < t → t ≤ mt m → (P m t ↔ P' m t)) {m t m' t' : Nat} (h : pz_fst k mt P m t) (h' : pz_fst k mt P' m' t') : m = m' ∧ t = t' := by
  obtain ⟨a1, a2, a3, a4, a5⟩ := h
  obtain ⟨b1, b2, b3, b4, b5⟩ := h'
  rcases Nat.lt_trichotomy m m' with q | q | q
  · exact absurd ((hP m t a1 a2 a3).mp a4) (b5 m t a2 a3 (Or.inl q))
  · subst q
    rcases Nat.lt_trichotomy t t' with z | z | z
    · exact absurd ((hP m t a1 a2 a3).mp a4) (b5 m t a2 a3 (Or.inr ⟨rfl, z⟩))
    · exact ⟨rfl, z⟩
    · exact absurd ((hP m t' b1 b2 b3).mpr b4) (a5 m t' b2 b3 (Or.inr ⟨rfl, z⟩))
  · exact absurd ((hP m' t' b1 b2 b3).mpr b4) (a5 m' t' b2 b3 (Or.inl q))
/-- the least shortest row from a, of len steps: its moves, how often, its states; f: how far to the goal -/
def pz_row (k : Nat) (mt : Nat → Nat) (gg : Nat → Nat → Nat) (f : Nat → Nat → Prop) (a len : Nat) (mv tm X : Nat → Nat) : Prop := X 0 = a ∧ ∀ i, i < len → pz_fst k mt (fun m t => f (pz_it (gg m) t (X i)) (len - i - 1)) (mv i) (tm i) ∧ X (i + 1) = pz_it (gg (mv i)) (tm i) (X i)
theorem pz_row_eq {k : Nat} {mt : Nat → Nat} {gg : Nat → Nat → Nat} {f : Nat → Nat → Prop} {a len : Nat} {mv tm X mv' tm' X' : Nat → Nat} (h : pz_row k mt gg f a len mv tm X) (h' : pz_row k mt gg f a len mv' tm' X') : ∀ i, i ≤ len → X i = X' i ∧ ∀ j, j < i → mv j = mv' j ∧ tm j = tm' j
  | 0, _ => ⟨h.1.trans h'.1.symm, fun j hj => by omega⟩
  | i + 1, hi => by
    obtain ⟨h1, h2⟩ := pz_row_eq h h' i (by omega)
    obtain ⟨a1, a2⟩ := h.2 i (by omega)
    obtain ⟨b1, b2⟩ := h'.2 i (by omega)
    rw [← h1] at b1 b2
    obtain ⟨e1, e2⟩ := pz_fst_eq (fun _ _ _ _ _ => Iff.rfl) a1 b1
    refine ⟨by rw [a2, b2, e1, e2], fun j hj => ?_⟩
    by_cases q : j = i
    · subst q; exact ⟨e1, e2⟩
    · exact h2 j (by omega)
