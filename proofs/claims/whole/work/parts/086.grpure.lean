/-! PURE: the graph of states as the program holds it -/
theorem gq_su : ∀ n, n < 32 → (((nI n).toUInt32 &&& Int32.toUInt32 31).toBitVec % 32).toNat = n := by decide
/-- where one begins to look for a state -/
def gq_hh (b c : Nat) : Nat := (nI c * (-1640531535)).toBitVec.toNat / 2 ^ (32 - b)
theorem gq_hh_lt {b c : Nat} (hb : b ≤ 30) : gq_hh b c < 2 ^ b := by
  unfold gq_hh
  have h1 := (nI c * (-1640531535)).toBitVec.isLt
  rw [Nat.div_lt_iff_lt_mul (Nat.pow_pos (by decide)), ← Nat.pow_add, show b + (32 - b) = 32 by omega]
  exact h1
theorem gq_hash {b c : Nat} (h0 : 0 < b) (hb : b ≤ 30) : ((nI c * (-1640531535)).toUInt32 >>> ((nI (32 - b)).toUInt32 &&& Int32.toUInt32 31)).toInt32 = nI ((gq_hh b c + 0) % 2 ^ b) := by
  rw [pz_ushrX _ _ (32 - b) (gq_su _ (by omega)), Nat.add_zero, Nat.mod_eq_of_lt (gq_hh_lt hb)]
  rfl
theorem gq_p31 {b : Nat} (hb : b ≤ 30) : 2 ^ b ≤ 2 ^ 30 := Nat.pow_le_pow_right (by decide) hb
theorem gq_next {b x j : Nat} (hb : b ≤ 30) : nI ((x + j) % 2 ^ b + 1) &&& nI (2 ^ b - 1) = nI ((x + (j + 1)) % 2 ^ b) := by
  have h1 := gq_p31 hb
  have h2 : (x + j) % 2 ^ b < 2 ^ b := Nat.mod_lt _ (Nat.pow_pos (by decide))
  rw [pk_andN (k := b) (by omega) (pk_tn (by omega)), pz_next (2 ^ b) x j]
/-- ways: a move, or a move undone -/
def gq_way (k u : Nat) : Prop := u < 12 ∧ (u < 6 → u < k) ∧ (6 ≤ u → u - 6 < k)
def gq_out (sg tu : Nat → Nat → Nat) (u : Nat) : Nat → Nat := if u < 6 then sg u else tu (u - 6)
def gq_in (sg tu : Nat → Nat → Nat) (u : Nat) : Nat → Nat := if u < 6 then tu u else sg (u - 6)
theorem gq_perm {n k u : Nat} {f : Nat → Int32} {M : Nat → Nat → Int32} {sg tu : Nat → Nat → Nat} {od : Nat → Nat} (h : mv_ok n k f M sg tu od) (hu : gq_way k u) : pz_perm n (gq_out sg tu u) (gq_in sg tu u) := by
  unfold gq_out gq_in
  by_cases e : u < 6
  · rw [if_pos e, if_pos e]; exact (h u (hu.2.1 e)).1
  · rw [if_neg e, if_neg e]; exact (h (u - 6) (hu.2.2 (by omega))).1.symm
theorem gq_row {n k u : Nat} {f : Nat → Int32} {M : Nat → Nat → Int32} {sg tu : Nat → Nat → Nat} {od : Nat → Nat} (h : mv_ok n k f M sg tu od) (hu : gq_way k u) (p : Nat) (hp : p < n) : M u p = nI (gq_out sg tu u p) := by
  unfold gq_out
  by_cases e : u < 6
  · rw [if_pos e]; exact ((h u (hu.2.1 e)).2.2.2 p hp).1
  · rw [if_neg e]
    have := ((h (u - 6) (hu.2.2 (by omega))).2.2.2 p hp).2
    rwa [show u - 6 + 6 = u by omega] at this
/-- the way back -/
def gq_un (u : Nat) : Nat := if u < 6 then u + 6 else u - 6
theorem gq_un_way {k u : Nat} (hk : k ≤ 6) (h : gq_way k u) : gq_way k (gq_un u) := by
  unfold gq_un gq_way at *
  by_cases e : u < 6
  · rw [if_pos e]; have := h.2.1 e; omega
  · rw [if_neg e]; have := h.2.2 (by omega); omega
theorem gq_un_in {sg tu : Nat → Nat → Nat} {u : Nat} (h : u < 12) : gq_in sg tu (gq_un u) = gq_out sg tu u := by
  unfold gq_in gq_out gq_un
  by_cases e : u < 6
  · rw [if_pos e, if_pos e, if_neg (by omega), show u + 6 - 6 = u by omega]
  · rw [if_neg e, if_neg e, if_pos (by omega)]
/-- the table of the states G that have been come upon, and where ways lead from them as far as is known -/
def gq_ok (n a0 b k : Nat) (sg tu : Nat → Nat → Nat) (G : List Nat) (st sl : Nat → Int32) (L : Nat → Nat → Int32) : Prop :=
  G.Nodup ∧ (∀ x, x ∈ G → pz_arr n a0 x) ∧ (∀ i x, G[i]? = some x → st i = nI x) ∧ (∃ s : Nat → Nat, (∀ j, j < 2 ^ b → sl j = nI (s j)) ∧ pz_ht (2 ^ b) (gq_hh b) G s) ∧
  (∀ u i x, gq_way k u → G[i]? = some x → L u i = -1 ∨ ∃ j, L u i = nI j ∧ G[j]? = some (pz_act n (gq_in sg tu u) x))
theorem gq_len {n a0 b k : Nat} {sg tu : Nat → Nat → Nat} {G : List Nat} {st sl : Nat → Int32} {L : Nat → Nat → Int32} (h : gq_ok n a0 b k sg tu G st sl L) : G.length ≤ pz_fact n := pz_arr_len h.1 h.2.1
theorem gq_room {n a0 b k c : Nat} {sg tu : Nat → Nat → Nat} {G : List Nat} {st sl : Nat → Int32} {L : Nat → Nat → Int32} (h : gq_ok n a0 b k sg tu G st sl L) (hc : pz_arr n a0 c) (hn : c ∉ G) : G.length < pz_fact n := by
  have h1 : (G ++ [c]).Nodup := List.nodup_append.mpr ⟨h.1, by simp, fun x hx y hy e => hn (by rw [List.mem_singleton.mp hy] at e; exact e ▸ hx)⟩
  have h2 := pz_arr_len (a := a0) (n := n) h1 (fun x hx => by
    rcases List.mem_append.mp hx with q | q
    · exact h.2.1 x q
    · rw [List.mem_singleton.mp q]; exact hc)
  rw [List.length_append, List.length_singleton] at h2
  omega
/-- a new state -/
theorem gq_put {n a0 b k c j : Nat} {sg tu : Nat → Nat → Nat} {G : List Nat} {st sl : Nat → Int32} {L L' : Nat → Nat → Int32} {s : Nat → Nat} (h : gq_ok n a0 b k sg tu G st sl L) (hc : pz_arr n a0 c) (hn : c ∉ G) (hs : ∀ j, j < 2 ^ b → sl j = nI (s j)) (ht : pz_ht (2 ^ b) (gq_hh b) G s) (hj : j < 2 ^ b) (h0 : s ((gq_hh b c + j) % 2 ^ b) = 0) (hl : ∀ j', j' < j → ¬ pz_stop (2 ^ b) (gq_hh b) G s c j')
    (hL1 : ∀ u, gq_way k u → L' u G.length = -1) (hL2 : ∀ u i, i ≠ G.length → L' u i = L u i) : gq_ok n a0 b k sg tu (G ++ [c]) (upd st G.length (nI c)) (upd sl ((gq_hh b c + j) % 2 ^ b) (nI (G.length + 1))) L' := by
  refine ⟨List.nodup_append.mpr ⟨h.1, by simp, fun x hx y hy e => hn (by rw [List.mem_singleton.mp hy] at e; exact e ▸ hx)⟩, fun x hx => ?_, fun i x hx => ?_, ⟨pz_up s ((gq_hh b c + j) % 2 ^ b) (G.length + 1), fun i hi => ?_, pz_ht_put ht (Nat.pow_pos (by decide)) hj h0 hl⟩, fun u i x hu hx => ?_⟩
  · rcases List.mem_append.mp hx with q | q
    · exact h.2.1 x q
    · rw [List.mem_singleton.mp q]; exact hc
  · by_cases e : i = G.length
    · subst e
      rw [List.getElem?_append_right (Nat.le_refl _), Nat.sub_self] at hx
      rw [pk_us, ← (Option.some.inj hx : c = x)]
    · have hlt := (List.getElem?_eq_some_iff.mp hx).1
      rw [List.length_append, List.length_singleton] at hlt
      rw [List.getElem?_append_left (by omega)] at hx
      rw [pk_un e]; exact h.2.2.1 i x hx
  · by_cases e : i = (gq_hh b c + j) % 2 ^ b
    · subst e; rw [pk_us, pz_up_s]
    · rw [pk_un e, pz_up_n _ _ e]; exact hs i hi
  · by_cases e : i = G.length
    · subst e; exact Or.inl (hL1 u hu)
    · have hlt := (List.getElem?_eq_some_iff.mp hx).1
      rw [List.length_append, List.length_singleton] at hlt
      rw [List.getElem?_append_left (by omega)] at hx
      rw [hL2 u i e]
      rcases h.2.2.2.2 u i x hu hx with q | ⟨j', q1, q2⟩
      · exact Or.inl q
      · exact Or.inr ⟨j', q1, by rw [List.getElem?_append_left (List.getElem?_eq_some_iff.mp q2).1]; exact q2⟩
/-- a link, and the link back -/
theorem gq_link {n a0 b k u i j x : Nat} {f : Nat → Int32} {M : Nat → Nat → Int32} {sg tu : Nat → Nat → Nat} {od : Nat → Nat} {G : List Nat} {st sl : Nat → Int32} {L : Nat → Nat → Int32} (hm : mv_ok n k f M sg tu od) (h : gq_ok n a0 b k sg tu G st sl L) (hu : gq_way k u) (hi : G[i]? = some x) (hj : G[j]? = some (pz_act n (gq_in sg tu u) x)) : gq_ok n a0 b k sg tu G st sl (pz_up (pz_up L u (upd (L u) i (nI j))) (gq_un u) (upd (pz_up L u (upd (L u) i (nI j)) (gq_un u)) j (nI i))) := by
  refine ⟨h.1, h.2.1, h.2.2.1, h.2.2.2.1, fun v y z hv hz => ?_⟩
  have hne : gq_un u ≠ u := by unfold gq_un; by_cases e : u < 6 <;> simp [e] <;> omega
  have hback : pz_act n (gq_in sg tu (gq_un u)) (pz_act n (gq_in sg tu u) x) = x := by
    rw [gq_un_in hu.1]
    exact pz_act_inv (gq_perm hm hu) x
  by_cases e : v = gq_un u
  · subst e
    rw [pz_up_s, pz_up_n _ _ hne]
    by_cases q : y = j
    · subst q
      rw [pk_us]
      have : z = pz_act n (gq_in sg tu u) x := Option.some.inj (hz.symm.trans hj)
      subst this
      exact Or.inr ⟨i, rfl, by rw [hback]; exact hi⟩
    · rw [pk_un q]; exact h.2.2.2.2 _ y z hv hz
  · rw [pz_up_n _ _ e]
    by_cases e2 : v = u
    · subst e2
      rw [pz_up_s]
      by_cases q : y = i
      · subst q
        rw [pk_us]
        have : z = x := Option.some.inj (hz.symm.trans hi)
        subst this
        exact Or.inr ⟨j, rfl, hj⟩
      · rw [pk_un q]; exact h.2.2.2.2 _ y z hv hz
    · rw [pz_up_n _ _ e2]; exact h.2.2.2.2 v y z hv hz
theorem pz_fact_le : ∀ {n : Nat}, n ≤ 8 → pz_fact n ≤ 40320
  | 0, _ => by decide
  | 1, _ => by decide
  | 2, _ => by decide
  | 3, _ => by decide
  | 4, _ => by decide
  | 5, _ => by decide
  | 6, _ => by decide
  | 7, _ => by decide
  | 8, _ => by decide
  | n + 9, h => by omega
theorem pz_fact_pos : ∀ n : Nat, 0 < pz_fact n
  | 0 => by decide
  | n + 1 => Nat.mul_pos (by omega) (pz_fact_pos n)
