/-! PURE: balls around a state, layer by layer; two balls that meet; rows that are shortest -/
/-- the first n lie nearer than d, all others d away -/
def pz_lay (n d : Nat) (S : pz_S) : Prop := n < S.1.length ∧ (∀ i x e, i < n → S.1[i]? = some x → S.2.1 x = some e → e < d) ∧ (∀ i x e, n ≤ i → S.1[i]? = some x → S.2.1 x = some e → e = d)
/-- a ball: N have been gone out from: the first n, or (complete) all -/
def pz_ball (s : Nat → List Nat) (a n d : Nat) (cm : Bool) (S : pz_S) : Prop := pz_inv s a (if cm = true then S.1.length else n) S ∧ pz_lay n d S
theorem pz_sn {x : Option Nat} {k : Nat} (h : x = some k) : x ≠ none := by rw [h]; exact fun e => by cases e
theorem pz_mem_far {S : pz_S} (h : pz_ok S) {x : Nat} (hx : x ∈ S.1) : ∃ e, S.2.1 x = some e := by
  cases he : S.2.1 x with
  | none => exact absurd he ((h.2 x).mp hx)
  | some e => exact ⟨e, rfl⟩
theorem pz_far_mem {S : pz_S} (h : pz_ok S) {x e : Nat} (hx : S.2.1 x = some e) : x ∈ S.1 := (h.2 x).mpr (by rw [hx]; exact fun q => by cases q)
theorem pz_ball_ok {s : Nat → List Nat} {a n d : Nat} {cm : Bool} {S : pz_S} (h : pz_ball s a n d cm S) : pz_ok S := h.1.1
theorem pz_ball_exact {s : Nat → List Nat} {a n d : Nat} {cm : Bool} {S : pz_S} (h : pz_ball s a n d cm S) {x k : Nat} (hx : S.2.1 x = some k) : pz_dist s a x k := pz_exact h.1 hx
theorem pz_ball_le {s : Nat → List Nat} {a n d : Nat} {cm : Bool} {S : pz_S} (h : pz_ball s a n d cm S) {x k : Nat} (hx : S.2.1 x = some k) : k ≤ d := by
  obtain ⟨i, hi⟩ := List.getElem?_of_mem (pz_far_mem h.1.1 hx)
  by_cases q : i < n
  · exact Nat.le_of_lt (h.2.2.1 i x k q hi hx)
  · exact Nat.le_of_eq (h.2.2.2 i x k (by omega) hi hx)
theorem pz_ball_last {s : Nat → List Nat} {a n d : Nat} {cm : Bool} {S : pz_S} (h : pz_ball s a n d cm S) {x : Nat} : S.2.1 x = some d ↔ ∃ i, n ≤ i ∧ S.1[i]? = some x := by
  constructor
  · intro hx
    obtain ⟨i, hi⟩ := List.getElem?_of_mem (pz_far_mem h.1.1 hx)
    by_cases q : i < n
    · exact absurd (h.2.2.1 i x d q hi hx) (by omega)
    · exact ⟨i, by omega, hi⟩
  · rintro ⟨i, hi, hx⟩
    obtain ⟨e, he⟩ := pz_mem_far h.1.1 (List.mem_of_getElem? hx)
    rw [he, h.2.2.2 i x e hi hx he]
theorem pz_ball_near {s : Nat → List Nat} {a n d : Nat} {cm : Bool} {S : pz_S} (h : pz_ball s a n d cm S) {x k : Nat} (hk : k ≤ d ∨ cm = true) (hx : pz_dist s a x k) : S.2.1 x = some k := by
  rcases pz_claim h.1 k x hx.1 with ⟨e, he, hf⟩ | ⟨y, e, h1, h2, h3⟩
  · rw [hf, pz_dist_eq (pz_exact h.1 hf) hx]
  · exfalso
    cases cm with
    | true =>
      rw [if_pos rfl] at h1
      simp at h1
    | false =>
      rw [if_neg (by decide)] at h1
      have := h.2.2.2 n y e (Nat.le_refl n) h1 h2
      rcases hk with hk | hk
      · omega
      · cases hk
theorem pz_ball_ways {s : Nat → List Nat} {a n d : Nat} {cm : Bool} {S : pz_S} (h : pz_ball s a n d cm S) {x k : Nat} (hx : S.2.1 x = some k) : S.2.2 x = lN (pz_cnt x (pz_ends s a k)) := by
  refine pz_full h.1 hx (fun i y e hi hy he => ?_)
  have hk := pz_ball_le h hx
  have hl := (List.getElem?_eq_some_iff.mp hy).1
  cases cm with
  | true => rw [if_pos rfl] at hi; omega
  | false =>
    rw [if_neg (by decide)] at hi
    have := h.2.2.2 i y e hi hy he
    omega
theorem pz_ball_0 (s : Nat → List Nat) (a : Nat) : pz_ball s a 0 0 false (pz_S0 a) := by
  refine ⟨by rw [if_neg (by decide)]; exact pz_inv_0 s a, by simp [pz_S0], fun i x e hi => by omega, fun i x e _ hx he => ?_⟩
  have h1 : x = a := List.mem_singleton.mp (List.mem_of_getElem? (l := [a]) hx)
  rw [h1] at he
  simp only [pz_S0, pz_up_s, Option.some.injEq] at he
  exact he.symm
/-- while a layer is added: j have been gone out from -/
def pz_mid (s : Nat → List Nat) (a n d f j : Nat) (S : pz_S) : Prop := pz_inv s a j S ∧ n ≤ j ∧ j ≤ f ∧ n < f ∧ f ≤ S.1.length ∧ (∀ i x e, i < n → S.1[i]? = some x → S.2.1 x = some e → e < d) ∧ (∀ i x e, n ≤ i → i < f → S.1[i]? = some x → S.2.1 x = some e → e = d) ∧ (∀ i x e, f ≤ i → S.1[i]? = some x → S.2.1 x = some e → e = d + 1)
theorem pz_mid_0 {s : Nat → List Nat} {a n d : Nat} {S : pz_S} (h : pz_ball s a n d false S) : pz_mid s a n d S.1.length n S := by
  refine ⟨by have := h.1; rwa [if_neg (by decide)] at this, Nat.le_refl n, Nat.le_of_lt h.2.1, h.2.1, Nat.le_refl _, h.2.2.1, fun i x e h1 _ => h.2.2.2 i x e h1, fun i x e hi hx => ?_⟩
  have := (List.getElem?_eq_some_iff.mp hx).1
  omega
theorem pz_mid_far {s : Nat → List Nat} {a n d f j : Nat} {S : pz_S} (h : pz_mid s a n d f j S) (hj : j < f) {x : Nat} (hx : S.1[j]? = some x) : S.2.1 x = some d := by
  obtain ⟨e, he⟩ := pz_mem_far h.1.1 (List.mem_of_getElem? hx)
  rw [he, h.2.2.2.2.2.2.1 j x e h.2.1 hj hx he]
theorem pz_mid_step {s : Nat → List Nat} {a n d f j : Nat} {S : pz_S} (h : pz_mid s a n d f j S) (hj : j < f) {x : Nat} (hx : S.1[j]? = some x) : pz_mid s a n d f (j + 1) ((s x).foldl (pz_vis (d + 1) (S.2.2 x)) S) := by
  have hd := pz_mid_far h hj hx
  have hi := pz_inv_step h.1 hx hd
  obtain ⟨N, hN, hN2⟩ := pz_fold_1 (d := d + 1) (w := S.2.2 x) (s x) S
  have h2 := fun c => pz_fold_2 (d := d + 1) (w := S.2.2 x) (s x) S c
  generalize (s x).foldl (pz_vis (d + 1) (S.2.2 x)) S = S' at hi hN h2 ⊢
  obtain ⟨h1, h3, h4, h5, h6, h7, h8, h9⟩ := h
  have hold : ∀ i y e, i < S.1.length → S'.1[i]? = some y → S'.2.1 y = some e → S.1[i]? = some y ∧ S.2.1 y = some e := by
    intro i y e hi hy he
    rw [hN, List.getElem?_append_left hi] at hy
    refine ⟨hy, ?_⟩
    rw [h2] at he
    by_cases q : S.2.1 y = none ∧ y ∈ s x
    · exact absurd q.1 ((h1.1.2 y).mp (List.mem_of_getElem? hy))
    · rw [if_neg q] at he; exact he
  refine ⟨hi, by omega, by omega, h5, by rw [hN, List.length_append]; omega, fun i y e hin hy he => ?_, fun i y e hni hif hy he => ?_, fun i y e hif hy he => ?_⟩
  · obtain ⟨q1, q2⟩ := hold i y e (by omega) hy he
    exact h7 i y e hin q1 q2
  · obtain ⟨q1, q2⟩ := hold i y e (by omega) hy he
    exact h8 i y e hni hif q1 q2
  · by_cases q : i < S.1.length
    · obtain ⟨q1, q2⟩ := hold i y e q hy he
      exact h9 i y e hif q1 q2
    · rw [hN, List.getElem?_append_right (by omega)] at hy
      have hy2 := hN2 y (List.mem_of_getElem? hy)
      rw [h2, if_pos hy2] at he
      exact (Option.some.inj he).symm
theorem pz_mid_end {s : Nat → List Nat} {a n d f : Nat} {S : pz_S} (h : pz_mid s a n d f f S) (hf : f < S.1.length) : pz_ball s a f (d + 1) false S := by
  obtain ⟨h1, h3, h4, h5, h6, h7, h8, h9⟩ := h
  refine ⟨by rw [if_neg (by decide)]; exact h1, hf, fun i x e hi hx he => ?_, h9⟩
  by_cases q : i < n
  · have := h7 i x e q hx he; omega
  · have := h8 i x e (by omega) hi hx he; omega
theorem pz_mid_full {s : Nat → List Nat} {a n d f : Nat} {S : pz_S} (h : pz_mid s a n d f f S) (hf : S.1.length = f) : pz_ball s a n d true S := by
  obtain ⟨h1, h3, h4, h5, h6, h7, h8, h9⟩ := h
  refine ⟨by rw [if_pos rfl, hf]; exact h1, by omega, h7, fun i x e hi hx he => ?_⟩
  have := (List.getElem?_eq_some_iff.mp hx).1
  exact h8 i x e hi (by omega) hx he
/-- no state in common: every row is longer than both depths together -/
theorem pz_apart {s r : Nat → List Nat} (hr : ∀ a b, pz_cnt b (s a) = pz_cnt a (r b)) {a g n d n' d' : Nat} {cm cm' : Bool} {S T : pz_S} (hS : pz_ball s a n d cm S) (hT : pz_ball r g n' d' cm' T) (hno : ∀ x, ¬ (S.2.1 x ≠ none ∧ T.2.1 x ≠ none)) {k : Nat} (hk : pz_dist s a g k) : d + d' < k := by
  by_cases q : d + d' < k
  · exact q
  · exfalso
    by_cases z : k ≤ d
    · have h1 := pz_ball_near hS (Or.inl z) hk
      have h2 := pz_ball_near hT (Or.inl (Nat.zero_le _)) (pz_dist_self r g)
      exact hno g ⟨pz_sn h1, pz_sn h2⟩
    · have hk' : k = d + (k - d) := by omega
      rw [hk'] at hk
      obtain ⟨x, h1, h2⟩ := pz_ends_mid hk.1
      obtain ⟨h3, h4⟩ := pz_dist_mid hk h1 h2
      have h5 := pz_ball_near hS (Or.inl (Nat.le_refl d)) h3
      have h6 := pz_ball_near hT (Or.inl (by omega)) (pz_dist_rev hr h4)
      exact hno x ⟨pz_sn h5, pz_sn h6⟩
theorem pz_no_row {s r : Nat → List Nat} (hr : ∀ a b, pz_cnt b (s a) = pz_cnt a (r b)) {a g n d n' d' : Nat} {cm cm' : Bool} {S T : pz_S} (hS : pz_ball s a n d cm S) (hT : pz_ball r g n' d' cm' T) (hno : ∀ x, ¬ (S.2.1 x ≠ none ∧ T.2.1 x ≠ none)) (hc : cm = true ∨ cm' = true) (k : Nat) : ¬ pz_dist s a g k := by
  intro hk
  rcases hc with hc | hc
  · have h1 := pz_ball_near hS (Or.inr hc) hk
    have h2 := pz_ball_near hT (Or.inl (Nat.zero_le _)) (pz_dist_self r g)
    exact hno g ⟨pz_sn h1, pz_sn h2⟩
  · have h1 := pz_ball_near hT (Or.inr hc) (pz_dist_rev hr hk)
    have h2 := pz_ball_near hS (Or.inl (Nat.zero_le _)) (pz_dist_self s a)
    exact hno a ⟨pz_sn h2, pz_sn h1⟩
/-- a common state of the last layers, where every row is longer than one step less: so long is the shortest -/
theorem pz_meet {s r : Nat → List Nat} (hr : ∀ a b, pz_cnt b (s a) = pz_cnt a (r b)) {a g n d n' d' : Nat} {cm cm' : Bool} {S T : pz_S} (hS : pz_ball s a n d cm S) (hT : pz_ball r g n' d' cm' T) {x : Nat} (h1 : S.2.1 x ≠ none) (h2 : T.2.1 x ≠ none) (hlong : ∀ k, pz_dist s a g k → d + d' ≤ k) : pz_dist s a g (d + d') := by
  cases he : S.2.1 x with
  | none => exact absurd he h1
  | some e =>
    cases hf : T.2.1 x with
    | none => exact absurd hf h2
    | some f =>
      have h3 := pz_ball_exact hS he
      have h4 := pz_dist_rev (fun u v => (hr v u).symm) (pz_ball_exact hT hf)
      have h5 := pz_ball_le hS he
      have h6 := pz_ball_le hT hf
      have h7 : g ∈ pz_ends s a (e + f) := by
        rw [pz_ends_add]
        exact List.mem_flatMap.mpr ⟨x, h3.1, h4.1⟩
      obtain ⟨k, hk, hd⟩ := pz_dist_of h7
      have := hlong k hd
      have hkk : k = d + d' := by omega
      rw [← hkk]
      exact hd
/-- the number of shortest rows, by the last layer of the ball around the goal -/
theorem pz_meet_ways {s r : Nat → List Nat} (hr : ∀ a b, pz_cnt b (s a) = pz_cnt a (r b)) {a g n d n' d' i : Nat} {cm cm' : Bool} {S T : pz_S} (hS : pz_ball s a n d cm S) (hT : pz_ball r g n' d' cm' T) (hi : i ≤ d) (hk : pz_dist s a g (i + d')) : pz_cnt g (pz_ends s a (i + d')) = pz_sum (fun x => if S.2.1 x = some i then pz_cnt x (pz_ends s a i) * pz_cnt x (pz_ends r g d') else 0) (T.1.drop n') := by
  have hnd : (T.1.drop n').Nodup := (List.drop_sublist n' T.1).nodup hT.1.1.1
  rw [pz_cnt_mid hr hnd (fun x h1 h2 => ?_)]
  · refine pz_sum_congr (fun x hx => ?_)
    by_cases q : S.2.1 x = some i
    · rw [if_pos q]
    · rw [if_neg q]
      obtain ⟨j, hj⟩ := List.getElem?_of_mem hx
      rw [List.getElem?_drop] at hj
      have hf := (pz_ball_last hT).mpr ⟨n' + j, by omega, hj⟩
      have hxg := pz_dist_rev (fun u v => (hr v u).symm) (pz_ball_exact hT hf)
      rw [Nat.mul_eq_zero]
      left
      refine pz_cnt_zero (fun hm => q ?_)
      exact pz_ball_near hS (Or.inl hi) (pz_dist_mid hk hm hxg.1).1
  · have h3 := (pz_dist_mid hk h1 h2).2
    have hf := pz_ball_near hT (Or.inl (Nat.le_refl d')) (pz_dist_rev hr h3)
    obtain ⟨j, hj, hx⟩ := (pz_ball_last hT).mp hf
    have h4 : (T.1.drop n')[j - n']? = some x := by rw [List.getElem?_drop, show n' + (j - n') = j by omega]; exact hx
    exact List.mem_of_getElem? h4
