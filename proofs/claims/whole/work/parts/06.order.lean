/-! PURE: how often a move must be done until all places have what they had: at most 15 times for eight places -/
theorem pz_it_lt {n : Nat} {f : Nat → Nat} (h : ∀ p, p < n → f p < n) : ∀ (t : Nat) {p : Nat}, p < n → pz_it f t p < n
  | 0, _, hp => hp
  | t + 1, _, hp => h _ (pz_it_lt h t hp)
theorem pz_it_back {n : Nat} {f g : Nat → Nat} (h : pz_perm n f g) : ∀ (t : Nat) {p : Nat}, p < n → pz_it g t (pz_it f t p) = p
  | 0, _, _ => rfl
  | t + 1, p, hp => by
    have hl := pz_it_lt (fun x hx => (h x hx).1) t hp
    rw [pz_it_1]
    show pz_it g t (g (f (pz_it f t p))) = p
    rw [(h _ hl).2.2.1]
    exact pz_it_back h t hp
theorem pz_it_can {n : Nat} {f g : Nat → Nat} (h : pz_perm n f g) {i d p : Nat} (hp : p < n) (e : pz_it f (d + i) p = pz_it f i p) : pz_it f d p = p := by
  have hc : pz_it f (d + i) p = pz_it f i (pz_it f d p) := by rw [Nat.add_comm]; exact pz_it_add f d i p
  rw [hc] at e
  have hd := pz_it_lt (fun x hx => (h x hx).1) d hp
  have h1 := pz_it_back h i hd
  rw [e, pz_it_back h i hp] at h1
  exact h1.symm
/-- l is the least number of times, at least 1, after which f has brought p back -/
def pz_per (f : Nat → Nat) (p l : Nat) : Prop := 0 < l ∧ pz_it f l p = p ∧ ∀ j, 0 < j → j < l → pz_it f j p ≠ p
theorem pz_per_ex {n : Nat} {f g : Nat → Nat} (h : pz_perm n f g) {p : Nat} (hp : p < n) : ∃ l, pz_per f p l := by
  have h1 : ∃ d, 0 < d ∧ pz_it f d p = p := by
    by_cases e : ((List.range (n + 1)).map (fun t => pz_it f t p)).Nodup
    · have hs : (List.range (n + 1)).map (fun t => pz_it f t p) ⊆ List.range n := by
        intro x hx
        obtain ⟨t, -, rfl⟩ := List.mem_map.mp hx
        exact List.mem_range.mpr (pz_it_lt (fun x hx => (h x hx).1) t hp)
      have := e.length_le_of_subset hs
      simp only [List.length_map, List.length_range] at this
      omega
    · rw [List.nodup_iff_pairwise_ne, List.pairwise_map, List.pairwise_iff_getElem] at e
      simp only [List.length_range, List.getElem_range] at e
      have e2 : ∃ i j, i < j ∧ pz_it f i p = pz_it f j p := by
        by_cases z : ∃ i j, i < j ∧ pz_it f i p = pz_it f j p
        · exact z
        · exact absurd (fun i j _ _ hij q => z ⟨i, j, hij, q⟩) e
      obtain ⟨i, j, hij, q⟩ := e2
      refine ⟨j - i, by omega, pz_it_can h (i := i) hp ?_⟩
      rw [show j - i + i = j by omega]
      exact q.symm
  obtain ⟨l, ⟨h2, h3⟩, h4⟩ := pk_least (fun d => 0 < d ∧ pz_it f d p = p) h1
  exact ⟨l, h2, h3, fun j hj hjl q => h4 j hjl ⟨hj, q⟩⟩
theorem pz_per_eq {f : Nat → Nat} {p l l' : Nat} (h1 : pz_per f p l) (h2 : pz_per f p l') : l = l' := by
  rcases Nat.lt_trichotomy l l' with h | h | h
  · exact absurd h1.2.1 (h2.2.2 l h1.1 h)
  · exact h
  · exact absurd h2.2.1 (h1.2.2 l' h2.1 h)
theorem pz_per_on {n : Nat} {f g : Nat → Nat} (h : pz_perm n f g) {p l i : Nat} (hp : p < n) (hl : pz_per f p l) : pz_per f (pz_it f i p) l := by
  have hcomm : ∀ a b, pz_it f a (pz_it f b p) = pz_it f b (pz_it f a p) := fun a b => by rw [← pz_it_add, ← pz_it_add, Nat.add_comm]
  refine ⟨hl.1, by rw [hcomm, hl.2.1], fun j hj hjl q => hl.2.2 j hj hjl ?_⟩
  exact pz_it_can h (i := i) hp (by rw [pz_it_add]; exact q)
def pz_orb (f : Nat → Nat) (p l : Nat) : List Nat := (List.range l).map (fun t => pz_it f t p)
theorem pz_orb_nd {n : Nat} {f g : Nat → Nat} (h : pz_perm n f g) {p l : Nat} (hp : p < n) (hl : pz_per f p l) : (pz_orb f p l).Nodup := by
  rw [pz_orb, List.nodup_iff_pairwise_ne, List.pairwise_map, List.pairwise_iff_getElem]
  intro i j hi hj hij e
  simp only [List.getElem_range] at e
  rw [List.length_range] at hi hj
  refine hl.2.2 (j - i) (by omega) (by omega) (pz_it_can h (i := i) hp ?_)
  rw [show j - i + i = j by omega]
  exact e.symm
theorem pz_orb_per {n : Nat} {f g : Nat → Nat} (h : pz_perm n f g) {p l x : Nat} (hp : p < n) (hl : pz_per f p l) (hx : x ∈ pz_orb f p l) : pz_per f x l ∧ x < n := by
  obtain ⟨i, -, rfl⟩ := List.mem_map.mp hx
  exact ⟨pz_per_on h hp hl, pz_it_lt (fun x hx => (h x hx).1) i hp⟩
theorem pz_orb_len (f : Nat → Nat) (p l : Nat) : (pz_orb f p l).length = l := by simp [pz_orb]
theorem pz_per_1 {n : Nat} {f g : Nat → Nat} (h : pz_perm n f g) {p l : Nat} (hp : p < n) (hl : pz_per f p l) : l ≤ n := by
  have := (pz_orb_nd h hp hl).length_le_of_subset (l₂ := List.range n) (fun x hx => List.mem_range.mpr (pz_orb_per h hp hl hx).2)
  rw [pz_orb_len, List.length_range] at this
  exact this
theorem pz_per_2 {n : Nat} {f g : Nat → Nat} (h : pz_perm n f g) {p l p' l' : Nat} (hp : p < n) (hl : pz_per f p l) (hp' : p' < n) (hl' : pz_per f p' l') (hne : l ≠ l') : l + l' ≤ n := by
  have hnd : (pz_orb f p l ++ pz_orb f p' l').Nodup := List.nodup_append.mpr ⟨pz_orb_nd h hp hl, pz_orb_nd h hp' hl', fun a ha b hb e => hne (pz_per_eq (pz_orb_per h hp hl ha).1 (e ▸ (pz_orb_per h hp' hl' hb).1))⟩
  have := hnd.length_le_of_subset (l₂ := List.range n) (fun x hx => by
    rcases List.mem_append.mp hx with q | q
    · exact List.mem_range.mpr (pz_orb_per h hp hl q).2
    · exact List.mem_range.mpr (pz_orb_per h hp' hl' q).2)
  rw [List.length_append, pz_orb_len, pz_orb_len, List.length_range] at this
  exact this
theorem pz_per_3 {n : Nat} {f g : Nat → Nat} (h : pz_perm n f g) {p l p' l' p'' l'' : Nat} (hp : p < n) (hl : pz_per f p l) (hp' : p' < n) (hl' : pz_per f p' l') (hp'' : p'' < n) (hl'' : pz_per f p'' l'') (h1 : l ≠ l') (h2 : l ≠ l'') (h3 : l' ≠ l'') : l + l' + l'' ≤ n := by
  have hnd : (pz_orb f p l ++ pz_orb f p' l' ++ pz_orb f p'' l'').Nodup := by
    refine List.nodup_append.mpr ⟨List.nodup_append.mpr ⟨pz_orb_nd h hp hl, pz_orb_nd h hp' hl', fun a ha b hb e => h1 (pz_per_eq (pz_orb_per h hp hl ha).1 (e ▸ (pz_orb_per h hp' hl' hb).1))⟩, pz_orb_nd h hp'' hl'', fun a ha b hb e => ?_⟩
    rcases List.mem_append.mp ha with q | q
    · exact h2 (pz_per_eq (pz_orb_per h hp hl q).1 (e ▸ (pz_orb_per h hp'' hl'' hb).1))
    · exact h3 (pz_per_eq (pz_orb_per h hp' hl' q).1 (e ▸ (pz_orb_per h hp'' hl'' hb).1))
  have := hnd.length_le_of_subset (l₂ := List.range n) (fun x hx => by
    rcases List.mem_append.mp hx with q | q
    · rcases List.mem_append.mp q with q | q
      · exact List.mem_range.mpr (pz_orb_per h hp hl q).2
      · exact List.mem_range.mpr (pz_orb_per h hp' hl' q).2
    · exact List.mem_range.mpr (pz_orb_per h hp'' hl'' q).2)
  rw [List.length_append, List.length_append, pz_orb_len, pz_orb_len, pz_orb_len, List.length_range] at this
  exact this
theorem pz_it_mul {f : Nat → Nat} {p l : Nat} (h : pz_it f l p = p) : ∀ k, pz_it f (k * l) p = p
  | 0 => by rw [Nat.zero_mul]; rfl
  | k + 1 => by rw [Nat.succ_mul, pz_it_add, h]; exact pz_it_mul h k
theorem pz_lcm_ex {n : Nat} {f g : Nat → Nat} (h : pz_perm n f g) (hn : n ≤ 8) : ∃ L, 0 < L ∧ L ≤ 15 ∧ ∀ p, p < n → ∃ l k, pz_per f p l ∧ L = k * l := by
  have fin : ∀ L, 0 < L → L ≤ 15 → (∀ p l, p < n → pz_per f p l → ∃ k, L = k * l) → ∃ L, 0 < L ∧ L ≤ 15 ∧ ∀ p, p < n → ∃ l k, pz_per f p l ∧ L = k * l := by
    intro L h0 h1 h2
    refine ⟨L, h0, h1, fun p hp => ?_⟩
    obtain ⟨l, hl⟩ := pz_per_ex h hp
    obtain ⟨k, hk⟩ := h2 p l hp hl
    exact ⟨l, k, hl, hk⟩
  by_cases h8 : ∃ p, p < n ∧ pz_per f p 8
  · obtain ⟨a, ha, hb⟩ := h8
    refine fin 8 (by omega) (by omega) (fun p l hp hl => ?_)
    have h0 := hl.1
    by_cases e : l = 8
    · exact ⟨1, by omega⟩
    · have := pz_per_2 h ha hb hp hl (fun q => e q.symm); omega
  by_cases h7 : ∃ p, p < n ∧ pz_per f p 7
  · obtain ⟨a, ha, hb⟩ := h7
    refine fin 7 (by omega) (by omega) (fun p l hp hl => ?_)
    have h0 := hl.1
    by_cases e : l = 7
    · exact ⟨1, by omega⟩
    · have := pz_per_2 h ha hb hp hl (fun q => e q.symm)
      exact ⟨7, by omega⟩
  by_cases h6 : ∃ p, p < n ∧ pz_per f p 6
  · obtain ⟨a, ha, hb⟩ := h6
    refine fin 6 (by omega) (by omega) (fun p l hp hl => ?_)
    have h0 := hl.1
    by_cases e : l = 6
    · exact ⟨1, by omega⟩
    · have := pz_per_2 h ha hb hp hl (fun q => e q.symm)
      rcases (show l = 1 ∨ l = 2 by omega) with q | q
      · exact ⟨6, by omega⟩
      · exact ⟨3, by omega⟩
  by_cases h5 : ∃ p, p < n ∧ pz_per f p 5
  · obtain ⟨a, ha, hb⟩ := h5
    by_cases h3 : ∃ p, p < n ∧ pz_per f p 3
    · obtain ⟨a', ha', hb'⟩ := h3
      refine fin 15 (by omega) (by omega) (fun p l hp hl => ?_)
      have h0 := hl.1
      by_cases e : l = 5
      · exact ⟨3, by omega⟩
      by_cases e' : l = 3
      · exact ⟨5, by omega⟩
      · have := pz_per_3 h ha hb ha' hb' hp hl (by omega) (fun q => e q.symm) (fun q => e' q.symm); omega
    · refine fin 10 (by omega) (by omega) (fun p l hp hl => ?_)
      have h0 := hl.1
      by_cases e : l = 5
      · exact ⟨2, by omega⟩
      · have := pz_per_2 h ha hb hp hl (fun q => e q.symm)
        rcases (show l = 1 ∨ l = 2 ∨ l = 3 by omega) with q | q | q
        · exact ⟨10, by omega⟩
        · exact ⟨5, by omega⟩
        · subst q; exact absurd ⟨p, hp, hl⟩ h3
  by_cases h4 : ∃ p, p < n ∧ pz_per f p 4
  · obtain ⟨a, ha, hb⟩ := h4
    by_cases h3 : ∃ p, p < n ∧ pz_per f p 3
    · obtain ⟨a', ha', hb'⟩ := h3
      refine fin 12 (by omega) (by omega) (fun p l hp hl => ?_)
      have h0 := hl.1
      by_cases e : l = 4
      · exact ⟨3, by omega⟩
      by_cases e' : l = 3
      · exact ⟨4, by omega⟩
      · have := pz_per_3 h ha hb ha' hb' hp hl (by omega) (fun q => e q.symm) (fun q => e' q.symm)
        exact ⟨12, by omega⟩
    · refine fin 4 (by omega) (by omega) (fun p l hp hl => ?_)
      have h0 := hl.1
      by_cases e : l = 4
      · exact ⟨1, by omega⟩
      · have := pz_per_2 h ha hb hp hl (fun q => e q.symm)
        rcases (show l = 1 ∨ l = 2 ∨ l = 3 by omega) with q | q | q
        · exact ⟨4, by omega⟩
        · exact ⟨2, by omega⟩
        · subst q; exact absurd ⟨p, hp, hl⟩ h3
  · refine fin 6 (by omega) (by omega) (fun p l hp hl => ?_)
    have h0 := hl.1
    have h1 := pz_per_1 h hp hl
    rcases (show l = 1 ∨ l = 2 ∨ l = 3 ∨ l = 4 ∨ l = 5 ∨ l = 6 ∨ l = 7 ∨ l = 8 by omega) with q | q | q | q | q | q | q | q
    · exact ⟨6, by omega⟩
    · exact ⟨3, by omega⟩
    · exact ⟨2, by omega⟩
    · subst q; exact absurd ⟨p, hp, hl⟩ h4
    · subst q; exact absurd ⟨p, hp, hl⟩ h5
    · subst q; exact absurd ⟨p, hp, hl⟩ h6
    · subst q; exact absurd ⟨p, hp, hl⟩ h7
    · subst q; exact absurd ⟨p, hp, hl⟩ h8
/-- the ORDER of a move -/
def pz_od (n : Nat) (f : Nat → Nat) (o : Nat) : Prop := 0 < o ∧ o ≤ 15 ∧ (∀ p, p < n → pz_it f o p = p) ∧ ∀ t, 0 < t → t < o → ¬ ∀ p, p < n → pz_it f t p = p
theorem pz_od_ex {n : Nat} {f g : Nat → Nat} (h : pz_perm n f g) (hn : n ≤ 8) : ∃ o, pz_od n f o := by
  obtain ⟨L, h0, h1, h2⟩ := pz_lcm_ex h hn
  have h3 : ∀ p, p < n → pz_it f L p = p := fun p hp => by
    obtain ⟨l, k, hl, hk⟩ := h2 p hp
    rw [hk]
    exact pz_it_mul hl.2.1 k
  obtain ⟨o, ⟨a1, a2⟩, a3⟩ := pk_least (fun t => 0 < t ∧ ∀ p, p < n → pz_it f t p = p) ⟨L, h0, h3⟩
  refine ⟨o, a1, ?_, a2, fun t ht hto q => a3 t hto ⟨ht, q⟩⟩
  by_cases e : o ≤ L
  · omega
  · exact absurd ⟨h0, h3⟩ (a3 L (by omega))
theorem pz_od_eq {n : Nat} {f : Nat → Nat} {o o' : Nat} (h1 : pz_od n f o) (h2 : pz_od n f o') : o = o' := by
  rcases Nat.lt_trichotomy o o' with h | h | h
  · exact absurd h1.2.2.1 (h2.2.2.2 o h1.1 h)
  · exact h
  · exact absurd h2.2.2.1 (h1.2.2.2 o' h2.1 h)
theorem pz_it_act {n : Nat} {g : Nat → Nat} (hg : ∀ p, p < n → g p < n) {c : Nat} (hc : c < 8 ^ n) : ∀ (t : Nat), pz_it (pz_act n g) t c < 8 ^ n ∧ ∀ q, q < n → pz_dg (pz_it (pz_act n g) t c) q = pz_dg c (pz_it g t q)
  | 0 => ⟨hc, fun _ _ => rfl⟩
  | t + 1 => by
    obtain ⟨h1, h2⟩ := pz_it_act hg hc t
    refine ⟨pz_act_lt h1, fun q hq => ?_⟩
    show pz_dg (pz_act n g (pz_it (pz_act n g) t c)) q = _
    rw [pz_act_dg h1 hq, h2 (g q) (hg q hq), ← pz_it_1]
theorem pz_it_fix {n : Nat} {f g : Nat → Nat} (h : pz_perm n f g) (t : Nat) : (∀ p, p < n → pz_it f t p = p) ↔ ∀ p, p < n → pz_it g t p = p := by
  constructor
  · intro hf p hp
    have := pz_it_back h t hp
    rw [hf p hp] at this
    exact this
  · intro hg p hp
    have := pz_it_back h.symm t hp
    rw [hg p hp] at this
    exact this
/-- a state that has p at place p: done t times the move leaves it just when it leaves all places -/
theorem pz_first_fix {n : Nat} {f g : Nat → Nat} (h : pz_perm n f g) {c : Nat} (hc : c < 8 ^ n) (hd : ∀ p, p < n → pz_dg c p = p) (t : Nat) : pz_it (pz_act n g) t c = c ↔ ∀ p, p < n → pz_it f t p = p := by
  have hg : ∀ p, p < n → g p < n := fun p hp => (h p hp).2.1
  obtain ⟨h1, h2⟩ := pz_it_act hg hc t
  rw [pz_it_fix h]
  constructor
  · intro e p hp
    have h3 := h2 p hp
    rw [e, hd p hp, hd _ (pz_it_lt hg t hp)] at h3
    exact h3.symm
  · intro e
    refine pz_ext h1 hc (fun p hp => ?_)
    rw [h2 p hp, e p hp]
theorem pz_od_act {n o : Nat} {f g : Nat → Nat} (h : pz_perm n f g) (ho : pz_od n f o) {c : Nat} (hc : c < 8 ^ n) : pz_it (pz_act n g) o c = c := by
  have hg : ∀ p, p < n → g p < n := fun p hp => (h p hp).2.1
  obtain ⟨h1, h2⟩ := pz_it_act hg hc o
  refine pz_ext h1 hc (fun p hp => ?_)
  rw [h2 p hp, (pz_it_fix h o).mp ho.2.2.1 p hp]
