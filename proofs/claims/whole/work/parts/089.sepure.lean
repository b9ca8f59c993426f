/-! PURE: for the search -/
theorem pz_take_snoc {l : List Nat} {u x : Nat} (h : l[u]? = some x) : l.take (u + 1) = l.take u ++ [x] := by rw [List.take_succ, h]; rfl
theorem pz_sum_one (F : Nat → Nat) (x : Nat) : pz_sum F [x] = F x := by simp [pz_sum]
/-- a shortest row has no more steps than there are arrangements, less one -/
theorem pz_dist_len {s : Nat → List Nat} {n a0 a : Nat} (harr : ∀ x, pz_arr n a0 x → ∀ y, y ∈ s x → pz_arr n a0 y) (ha : pz_arr n a0 a) {g K : Nat} (h : pz_dist s a g K) : K < pz_fact n := by
  have hends : ∀ k x, x ∈ pz_ends s a k → pz_arr n a0 x := by
    intro k
    induction k with
    | zero => intro x hx; rw [List.mem_singleton.mp hx]; exact ha
    | succ k ih =>
      intro x hx
      obtain ⟨y, hy, hxy⟩ := List.mem_flatMap.mp hx
      exact harr y (ih y hy) x hxy
  have hmid : ∀ i, ∃ x, i ≤ K → pz_dist s a x i := by
    intro i
    by_cases hi : i ≤ K
    · have hK : K = i + (K - i) := by omega
      rw [hK] at h
      obtain ⟨x, h1, h2⟩ := pz_ends_mid h.1
      exact ⟨x, fun _ => (pz_dist_mid h h1 h2).1⟩
    · exact ⟨0, fun q => absurd q hi⟩
  have hf : ∃ f : Nat → Nat, ∀ i, i ≤ K → pz_dist s a (f i) i := ⟨fun i => Classical.choose (hmid i), fun i hi => Classical.choose_spec (hmid i) hi⟩
  obtain ⟨f, hf⟩ := hf
  have hnd : ((List.range (K + 1)).map f).Nodup := by
    rw [List.nodup_iff_pairwise_ne, List.pairwise_map]
    refine List.Pairwise.imp_of_mem ?_ List.nodup_range
    intro i j hi hj hij e
    have hi' := List.mem_range.mp hi
    have hj' := List.mem_range.mp hj
    have h1 := hf i (by omega)
    have h2 := hf j (by omega)
    rw [e] at h1
    exact hij (pz_dist_eq h1 h2)
  have := pz_arr_len (n := n) (a := a0) hnd (fun x hx => by
    obtain ⟨i, hi, rfl⟩ := List.mem_map.mp hx
    have hi' := List.mem_range.mp hi
    exact hends i _ (hf i (by omega)).1)
  rw [List.length_map, List.length_range] at this
  omega
theorem bl_s_arr {n k fw a0 : Nat} {me : Int32} {f : Nat → Int32} {M : Nat → Nat → Int32} {sg tu : Nat → Nat → Nat} {od : Nat → Nat} (h : mv_ok n k f M sg tu od) (hk : k ≤ 6) (hf : fw = 0 ∨ fw = 6) (x : Nat) (hx : pz_arr n a0 x) (y : Nat) (hy : y ∈ bl_s n k fw sg tu od me x) : pz_arr n a0 y := by
  obtain ⟨m, j, hm, -, -, rfl⟩ := pz_st_mem.mp hy
  have hp := gq_perm h (bl_way hk hf hm)
  clear hy
  induction j with
  | zero => exact hx
  | succ j ih => exact pz_arr_act hp ih
theorem bl_rev {n k : Nat} {me : Int32} {f : Nat → Int32} {M : Nat → Nat → Int32} {sg tu : Nat → Nat → Nat} {od : Nat → Nat} (h : mv_ok n k f M sg tu od) (hk : k ≤ 6) (u v : Nat) : pz_cnt v (bl_s n k 0 sg tu od me u) = pz_cnt u (bl_s n k 6 sg tu od me v) := by
  refine pz_st_rev (fun m hm c => ?_) (fun m hm c => ?_) u v
  · have hp := (h m hm).1
    unfold bl_g gq_in
    rw [if_neg (show ¬ 6 + m < 6 by omega), if_pos (show 0 + m < 6 by omega), show 6 + m - 6 = m by omega, Nat.zero_add]
    exact pz_act_inv hp c
  · have hp := (h m hm).1
    unfold bl_g gq_in
    rw [if_neg (show ¬ 6 + m < 6 by omega), if_pos (show 0 + m < 6 by omega), show 6 + m - 6 = m by omega, Nat.zero_add]
    exact pz_act_inv hp.symm c
theorem pz_fst_of {k : Nat} {mt : Nat → Nat} {P P' : Nat → Nat → Prop} (hP : ∀ m t, m < k → 0 < t → t ≤ mt m → (P m t ↔ P' m t)) {m t : Nat} (h : pz_fst k mt P m t) : pz_fst k mt P' m t := by
  obtain ⟨a1, a2, a3, a4, a5⟩ := h
  refine ⟨a1, a2, a3, (hP m t a1 a2 a3).mp a4, fun m' t' h1 h2 h3 q => a5 m' t' h1 h2 h3 ((hP m' t' ?_ h1 h2).mpr q)⟩
  rcases h3 with h3 | h3 <;> omega
/-- from a state on a shortest row: a step that leads nearer, and which steps lead nearer, by what the table knows -/
theorem bl_near {n k len i : Nat} {me : Int32} {sg tu : Nat → Nat → Nat} {od : Nat → Nat} (hrv : ∀ u v, pz_cnt v (bl_s n k 0 sg tu od me u) = pz_cnt u (bl_s n k 6 sg tu od me v)) {sa gl x : Nat} {T : pz_S} (hdist : pz_dist (bl_s n k 0 sg tu od me) sa gl len) (hTe : ∀ y e, T.2.1 y = some e → pz_dist (bl_s n k 6 sg tu od me) gl y e) (hTa : ∀ y f e, pz_dist (bl_s n k 0 sg tu od me) sa y f → pz_dist (bl_s n k 6 sg tu od me) gl y e → f + e = len → T.2.1 y = some e) (hi : i < len) (h1 : pz_dist (bl_s n k 0 sg tu od me) sa x i) (h2 : pz_dist (bl_s n k 6 sg tu od me) gl x (len - i)) :
    (∃ m t, m < k ∧ 0 < t ∧ t ≤ bl_mt me od m ∧ T.2.1 (pz_it (bl_g n 0 sg tu m) t x) = some (len - i - 1)) ∧ (∀ m t, m < k → 0 < t → t ≤ bl_mt me od m → (T.2.1 (pz_it (bl_g n 0 sg tu m) t x) = some (len - i - 1) ↔ pz_dist (bl_s n k 6 sg tu od me) gl (pz_it (bl_g n 0 sg tu m) t x) (len - i - 1))) ∧ (∀ y, y ∈ bl_s n k 0 sg tu od me x → pz_dist (bl_s n k 6 sg tu od me) gl y (len - i - 1) → pz_dist (bl_s n k 0 sg tu od me) sa y (i + 1)) := by
  have key : ∀ y, y ∈ bl_s n k 0 sg tu od me x → pz_dist (bl_s n k 6 sg tu od me) gl y (len - i - 1) → pz_dist (bl_s n k 0 sg tu od me) sa y (i + 1) := by
    intro y hy hd
    have hlen : pz_dist (bl_s n k 0 sg tu od me) sa gl (i + 1 + (len - i - 1)) := by rw [show i + 1 + (len - i - 1) = len by omega]; exact hdist
    exact (pz_dist_mid hlen (List.mem_flatMap.mpr ⟨x, h1.1, hy⟩) (pz_rev_mem (fun u v => (hrv v u).symm) hd.1)).1
  have hstep : ∀ m t, m < k → 0 < t → t ≤ bl_mt me od m → pz_it (bl_g n 0 sg tu m) t x ∈ bl_s n k 0 sg tu od me x := fun m t a1 a2 a3 => pz_st_mem.mpr ⟨m, t, a1, a2, a3, rfl⟩
  refine ⟨?_, fun m t a1 a2 a3 => ⟨fun q => hTe _ _ q, fun q => hTa _ (i + 1) _ (key _ (hstep m t a1 a2 a3) q) q (by omega)⟩, key⟩
  have h3 := pz_dist_rev (fun u v => (hrv v u).symm) h2
  obtain ⟨e, he⟩ : ∃ e, len - i = e + 1 := ⟨len - i - 1, by omega⟩
  rw [he] at h3
  have h4 := h3.1
  rw [pz_ends_1] at h4
  obtain ⟨y, hy, hgy⟩ := List.mem_flatMap.mp h4
  obtain ⟨m, t, a1, a2, a3, a4⟩ := pz_st_mem.mp hy
  have h5 : pz_dist (bl_s n k 0 sg tu od me) y gl e := by
    refine ⟨hgy, fun j hj hm => h3.2 (j + 1) (by omega) ?_⟩
    rw [pz_ends_1]
    exact List.mem_flatMap.mpr ⟨y, hy, hm⟩
  have h6 := pz_dist_rev hrv h5
  have he2 : len - i - 1 = e := by omega
  refine ⟨m, t, a1, a2, a3, ?_⟩
  rw [← a4, he2]
  exact hTa y (i + 1) e (key y hy (by rw [he2]; exact h6)) h6 (by omega)
