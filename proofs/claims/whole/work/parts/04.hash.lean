/-! PURE: a table of M slots: 0, or the place in Q of a state, and 1; one looks from hh x on, slot by slot -/
def pz_ht (M : Nat) (hh : Nat → Nat) (Q : List Nat) (sl : Nat → Nat) : Prop :=
  (∀ k, k < M → sl k ≠ 0 → ∃ x, Q[sl k - 1]? = some x) ∧ (∀ k k', k < M → k' < M → sl k ≠ 0 → sl k = sl k' → k = k') ∧
  (∀ i x, Q[i]? = some x → ∃ j, j < M ∧ sl ((hh x + j) % M) = i + 1 ∧ ∀ j', j' < j → sl ((hh x + j') % M) ≠ 0 ∧ sl ((hh x + j') % M) ≤ i)
/-- where one stops that looks for x -/
def pz_stop (M : Nat) (hh : Nat → Nat) (Q : List Nat) (sl : Nat → Nat) (x j : Nat) : Prop := sl ((hh x + j) % M) = 0 ∨ Q[sl ((hh x + j) % M) - 1]? = some x
theorem pz_next (M a j : Nat) : (a + (j + 1)) % M = ((a + j) % M + 1) % M := by
  rw [← Nat.add_assoc, Nat.add_mod (a + j) 1 M, Nat.add_mod ((a + j) % M) 1 M, Nat.mod_mod]
theorem pz_probe_inj {M a j j' : Nat} (hj : j < M) (hj' : j' < M) (h : (a + j) % M = (a + j') % M) : j = j' := by
  have key : ∀ x y : Nat, x < M → y < M → x ≤ y → (a + x) % M = (a + y) % M → x = y := by
    intro x y hx hy hxy e
    have h1 : (a + y) = (a + x) + (y - x) := by omega
    rw [h1] at e
    have h2 : ((a + x) + (y - x)) % M = (a + x) % M := e.symm
    have h3 : M ∣ (y - x) := by
      have h4 := Nat.sub_mod_eq_zero_of_mod_eq h2
      have h5 : (a + x) + (y - x) - (a + x) = y - x := by omega
      rw [h5] at h4
      exact Nat.dvd_of_mod_eq_zero h4
    rcases h3 with ⟨q, hq⟩
    cases q with
    | zero => omega
    | succ q =>
      have : M ≤ M * (q + 1) := Nat.le_mul_of_pos_right M (by omega)
      omega
  rcases Nat.le_total j j' with q | q
  · exact key j j' hj hj' q h
  · exact (key j' j hj' hj q h.symm).symm
theorem pz_getinj {Q : List Nat} (hn : Q.Nodup) {i j x : Nat} (hi : Q[i]? = some x) (hj : Q[j]? = some x) : i = j :=
  (List.getElem?_inj (List.getElem?_eq_some_iff.mp hi).1 hn).mp (hi.trans hj.symm)
theorem pz_ht_free {M : Nat} {hh : Nat → Nat} {Q : List Nat} {sl : Nat → Nat} (h : pz_ht M hh Q sl) (hM : Q.length < M) : ∃ k, k < M ∧ sl k = 0 := by
  by_cases e : ∃ k, k < M ∧ sl k = 0
  · exact e
  · exfalso
    have hne : ∀ k, k < M → sl k ≠ 0 := fun k hk h0 => e ⟨k, hk, h0⟩
    have h1 : ((List.range M).map (fun k => sl k - 1)).Nodup := by
      rw [List.nodup_iff_pairwise_ne, List.pairwise_map]
      refine List.Pairwise.imp_of_mem ?_ List.nodup_range
      intro a b ha hb hab z
      have ha' := List.mem_range.mp ha
      have hb' := List.mem_range.mp hb
      have := hne a ha'
      have := hne b hb'
      exact hab (h.2.1 a b ha' hb' (hne a ha') (by omega))
    have h2 : (List.range M).map (fun k => sl k - 1) ⊆ List.range Q.length := by
      intro y hy
      obtain ⟨k, hk, rfl⟩ := List.mem_map.mp hy
      obtain ⟨x, hx⟩ := h.1 k (List.mem_range.mp hk) (hne k (List.mem_range.mp hk))
      exact List.mem_range.mpr (List.getElem?_eq_some_iff.mp hx).1
    have h3 := h1.length_le_of_subset h2
    simp only [List.length_map, List.length_range] at h3
    omega
theorem pz_ht_stop {M : Nat} {hh : Nat → Nat} {Q : List Nat} {sl : Nat → Nat} (h : pz_ht M hh Q sl) (hM : Q.length < M) {x : Nat} (hx : hh x < M) : ∃ j, j < M ∧ pz_stop M hh Q sl x j := by
  obtain ⟨k, hk, h0⟩ := pz_ht_free h hM
  by_cases e : hh x ≤ k
  · refine ⟨k - hh x, by omega, Or.inl ?_⟩
    rw [show hh x + (k - hh x) = k by omega, Nat.mod_eq_of_lt hk]
    exact h0
  · refine ⟨k + M - hh x, by omega, Or.inl ?_⟩
    rw [show hh x + (k + M - hh x) = k + M by omega, Nat.add_mod_right, Nat.mod_eq_of_lt hk]
    exact h0
theorem pz_ht_in {M : Nat} {hh : Nat → Nat} {Q : List Nat} {sl : Nat → Nat} (h : pz_ht M hh Q sl) (hn : Q.Nodup) (h0 : 0 < M) {x i j : Nat} (hi : Q[i]? = some x) (hj : pz_stop M hh Q sl x j) (hl : ∀ j', j' < j → ¬ pz_stop M hh Q sl x j') : sl ((hh x + j) % M) = i + 1 := by
  obtain ⟨j0, hj0, h1, h2⟩ := h.2.2 i x hi
  have hs0 : pz_stop M hh Q sl x j0 := Or.inr (by rw [h1]; exact hi)
  rcases Nat.lt_trichotomy j j0 with q | q | q
  · exfalso
    have hne := (h2 j q).1
    rcases hj with hj | hj
    · exact hne hj
    · have h3 := pz_getinj hn hj hi
      have h4 : sl ((hh x + j) % M) = sl ((hh x + j0) % M) := by rw [h1]; omega
      have h5 := h.2.1 _ _ (Nat.mod_lt _ h0) (Nat.mod_lt _ h0) hne h4
      have := pz_probe_inj (by omega) hj0 h5
      omega
  · rw [q]; exact h1
  · exact absurd hs0 (hl j0 q)
theorem pz_ht_out {M : Nat} {hh : Nat → Nat} {Q : List Nat} {sl : Nat → Nat} {x j : Nat} (hx : x ∉ Q) (hj : pz_stop M hh Q sl x j) : sl ((hh x + j) % M) = 0 := by
  rcases hj with hj | hj
  · exact hj
  · exact absurd (List.mem_of_getElem? hj) hx
theorem pz_ht_put {M : Nat} {hh : Nat → Nat} {Q : List Nat} {sl : Nat → Nat} (h : pz_ht M hh Q sl) (h0 : 0 < M) {x j : Nat} (hjM : j < M) (hj : sl ((hh x + j) % M) = 0) (hl : ∀ j', j' < j → ¬ pz_stop M hh Q sl x j') : pz_ht M hh (Q ++ [x]) (pz_up sl ((hh x + j) % M) (Q.length + 1)) := by
  generalize hk : (hh x + j) % M = k at hj
  have hkM : k < M := by rw [← hk]; exact Nat.mod_lt _ h0
  have hle : ∀ k', k' < M → sl k' ≠ 0 → sl k' ≤ Q.length := fun k' h1 h2 => by
    obtain ⟨y, hy⟩ := h.1 k' h1 h2
    have := (List.getElem?_eq_some_iff.mp hy).1
    omega
  refine ⟨fun k' hk' hne => ?_, fun a b ha hb hne e => ?_, fun i y hy => ?_⟩
  · by_cases q : k' = k
    · subst q
      refine ⟨x, ?_⟩
      rw [pz_up_s]
      simp
    · rw [pz_up_n _ _ q] at hne ⊢
      obtain ⟨y, hy⟩ := h.1 k' hk' hne
      exact ⟨y, by rw [List.getElem?_append_left (List.getElem?_eq_some_iff.mp hy).1]; exact hy⟩
  · by_cases q : a = k
    · by_cases z : b = k
      · rw [q, z]
      · rw [q, pz_up_s, pz_up_n _ _ z] at e
        have := hle b hb (by omega)
        omega
    · rw [pz_up_n _ _ q] at e hne
      by_cases z : b = k
      · rw [z, pz_up_s] at e
        have := hle a ha hne
        omega
      · rw [pz_up_n _ _ z] at e
        exact h.2.1 a b ha hb hne e
  · by_cases hi : i < Q.length
    · rw [List.getElem?_append_left hi] at hy
      obtain ⟨j0, a1, a2, a3⟩ := h.2.2 i y hy
      refine ⟨j0, a1, ?_, fun j' hj' => ?_⟩
      · rw [pz_up_n]
        · exact a2
        · intro e; rw [e, hj] at a2; omega
      · have := a3 j' hj'
        rw [pz_up_n]
        · exact this
        · intro e; rw [e, hj] at this; exact this.1 rfl
    · have hlen := (List.getElem?_eq_some_iff.mp hy).1
      rw [List.length_append, List.length_singleton] at hlen
      have hiq : i = Q.length := by omega
      subst hiq
      have hyx : y = x := by
        rw [List.getElem?_append_right (Nat.le_refl _), Nat.sub_self] at hy
        exact (Option.some.inj hy).symm
      subst hyx
      refine ⟨j, hjM, by rw [hk, pz_up_s], fun j' hj' => ?_⟩
      have hs := hl j' hj'
      have hne : sl ((hh y + j') % M) ≠ 0 := fun e => hs (Or.inl e)
      have hnk : (hh y + j') % M ≠ k := fun e => hne (by rw [e]; exact hj)
      rw [pz_up_n _ _ hnk]
      exact ⟨hne, hle _ (Nat.mod_lt _ h0) hne⟩
theorem pz_ht_drop {M : Nat} {hh : Nat → Nat} {Q : List Nat} {sl : Nat → Nat} {x k : Nat} (h : pz_ht M hh (Q ++ [x]) sl) (hkM : k < M) (hk : sl k = Q.length + 1) (h0 : 0 < M) : pz_ht M hh Q (pz_up sl k 0) := by
  refine ⟨fun k' hk' hne => ?_, fun a b ha hb hne e => ?_, fun i y hy => ?_⟩
  · by_cases q : k' = k
    · subst q; rw [pz_up_s] at hne; exact absurd rfl hne
    · rw [pz_up_n _ _ q] at hne ⊢
      obtain ⟨y, hy⟩ := h.1 k' hk' hne
      refine ⟨y, ?_⟩
      by_cases z : sl k' - 1 < Q.length
      · rw [List.getElem?_append_left z] at hy; exact hy
      · have hlen := (List.getElem?_eq_some_iff.mp hy).1
        rw [List.length_append, List.length_singleton] at hlen
        exact absurd (h.2.1 k' k hk' hkM hne (by omega)) q
  · by_cases q : a = k
    · rw [q, pz_up_s] at hne; exact absurd rfl hne
    · rw [pz_up_n _ _ q] at hne e
      by_cases z : b = k
      · rw [z, pz_up_s] at e; exact absurd e hne
      · rw [pz_up_n _ _ z] at e
        exact h.2.1 a b ha hb hne e
  · have hi := (List.getElem?_eq_some_iff.mp hy).1
    obtain ⟨j0, a1, a2, a3⟩ := h.2.2 i y (by rw [List.getElem?_append_left hi]; exact hy)
    refine ⟨j0, a1, ?_, fun j' hj' => ?_⟩
    · rw [pz_up_n]
      · exact a2
      · intro e; rw [e, hk] at a2; omega
    · have := a3 j' hj'
      rw [pz_up_n]
      · exact this
      · intro e; rw [e, hk] at this; omega
theorem pz_ht_nil {M : Nat} {hh : Nat → Nat} {sl : Nat → Nat} (h : ∀ k, k < M → sl k = 0) : pz_ht M hh [] sl :=
  ⟨fun k hk hne => absurd (h k hk) hne, fun a b ha _ hne _ => absurd (h a ha) hne, fun i x hx => by simp at hx⟩
theorem pz_ht_nil0 {M : Nat} {hh : Nat → Nat} {sl : Nat → Nat} (h : pz_ht M hh [] sl) {k : Nat} (hk : k < M) : sl k = 0 := by
  by_cases e : sl k = 0
  · exact e
  · obtain ⟨x, hx⟩ := h.1 k hk e
    simp at hx
