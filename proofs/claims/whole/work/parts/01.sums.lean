/-! PURE: sums over lists, counts, walks -/
def pz_sum (f : Nat → Nat) : List Nat → Nat
  | [] => 0
  | x :: l => f x + pz_sum f l
theorem pz_sum_app (f : Nat → Nat) (l l' : List Nat) : pz_sum f (l ++ l') = pz_sum f l + pz_sum f l' := by
  induction l with
  | nil => simp [pz_sum]
  | cons x l ih => simp only [List.cons_append, pz_sum, ih]; omega
theorem pz_sum_congr {f g : Nat → Nat} {l : List Nat} (h : ∀ x, x ∈ l → f x = g x) : pz_sum f l = pz_sum g l := by
  induction l with
  | nil => rfl
  | cons x l ih =>
    simp only [pz_sum]
    rw [h x List.mem_cons_self, ih (fun y hy => h y (List.mem_cons_of_mem _ hy))]
theorem pz_sum_add (f g : Nat → Nat) (l : List Nat) : pz_sum (fun x => f x + g x) l = pz_sum f l + pz_sum g l := by
  induction l with
  | nil => rfl
  | cons x l ih => simp only [pz_sum, ih]; omega
theorem pz_sum_mul (c : Nat) (f : Nat → Nat) (l : List Nat) : pz_sum (fun x => c * f x) l = c * pz_sum f l := by
  induction l with
  | nil => rfl
  | cons x l ih => simp only [pz_sum, ih, Nat.mul_add]
theorem pz_sum_zero {f : Nat → Nat} {l : List Nat} (h : ∀ x, x ∈ l → f x = 0) : pz_sum f l = 0 := by
  induction l with
  | nil => rfl
  | cons x l ih =>
    simp only [pz_sum]
    rw [h x List.mem_cons_self, ih (fun y hy => h y (List.mem_cons_of_mem _ hy))]
theorem pz_sum_swap (F : Nat → Nat → Nat) (l l' : List Nat) : pz_sum (fun x => pz_sum (fun y => F x y) l') l = pz_sum (fun y => pz_sum (fun x => F x y) l) l' := by
  induction l with
  | nil => exact (pz_sum_zero (fun _ _ => rfl)).symm
  | cons x l ih =>
    simp only [pz_sum, ih]
    rw [← pz_sum_add]
theorem pz_sum_flat (f : Nat → Nat) (g : Nat → List Nat) (l : List Nat) : pz_sum f (l.flatMap g) = pz_sum (fun x => pz_sum f (g x)) l := by
  induction l with
  | nil => rfl
  | cons x l ih => simp only [List.flatMap_cons, pz_sum_app, pz_sum, ih]
def pz_cnt (c : Nat) (l : List Nat) : Nat := pz_sum (fun x => if x = c then 1 else 0) l
theorem pz_cnt_nil (c : Nat) : pz_cnt c [] = 0 := rfl
theorem pz_cnt_one (c a : Nat) : pz_cnt c [a] = if a = c then 1 else 0 := by simp [pz_cnt, pz_sum]
theorem pz_cnt_app (c : Nat) (l l' : List Nat) : pz_cnt c (l ++ l') = pz_cnt c l + pz_cnt c l' := pz_sum_app _ _ _
theorem pz_cnt_zero {c : Nat} {l : List Nat} (h : c ∉ l) : pz_cnt c l = 0 := pz_sum_zero (fun x hx => if_neg (fun (e : x = c) => h (e ▸ hx)))
theorem pz_cnt_pos {c : Nat} {l : List Nat} (h : c ∈ l) : 0 < pz_cnt c l := by
  induction l with
  | nil => cases h
  | cons x l ih =>
    simp only [pz_cnt, pz_sum]
    rcases List.mem_cons.mp h with e | e
    · subst e; simp; omega
    · have := ih e; unfold pz_cnt at this; omega
theorem pz_cnt_mem {c : Nat} {l : List Nat} (h : pz_cnt c l ≠ 0) : c ∈ l := by
  by_cases e : c ∈ l
  · exact e
  · exact absurd (pz_cnt_zero e) h
theorem pz_cnt_flat (c : Nat) (g : Nat → List Nat) (l : List Nat) : pz_cnt c (l.flatMap g) = pz_sum (fun x => pz_cnt c (g x)) l := pz_sum_flat _ _ _
theorem pz_pair (l l' : List Nat) : pz_sum (fun x => pz_cnt x l') l = pz_sum (fun y => pz_cnt y l) l' := by
  unfold pz_cnt
  rw [pz_sum_swap]
  refine pz_sum_congr (fun y _ => pz_sum_congr (fun x _ => ?_))
  by_cases e : x = y
  · subst e; rfl
  · rw [if_neg e, if_neg (fun h => e h.symm)]
theorem pz_pick {L : List Nat} (hn : L.Nodup) (f : Nat → Nat) (x : Nat) : pz_sum (fun y => if x = y then f y else 0) L = if x ∈ L then f x else 0 := by
  induction L with
  | nil => simp [pz_sum]
  | cons a L ih =>
    have hn' := List.nodup_cons.mp hn
    simp only [pz_sum, ih hn'.2]
    by_cases h : x = a
    · subst h; simp [hn'.1]
    · simp [h]
theorem pz_group {L : List Nat} (hn : L.Nodup) (f : Nat → Nat) (l : List Nat) (h0 : ∀ x, x ∈ l → x ∉ L → f x = 0) : pz_sum f l = pz_sum (fun y => pz_cnt y l * f y) L := by
  have h1 : pz_sum f l = pz_sum (fun x => pz_sum (fun y => if x = y then f y else 0) L) l := pz_sum_congr (fun x hx => by
    rw [pz_pick hn]
    by_cases h : x ∈ L
    · rw [if_pos h]
    · rw [if_neg h, h0 x hx h])
  rw [h1, pz_sum_swap]
  refine pz_sum_congr (fun y _ => ?_)
  unfold pz_cnt
  rw [Nat.mul_comm, ← pz_sum_mul]
  refine pz_sum_congr (fun x _ => ?_)
  by_cases h : x = y
  · rw [if_pos h, if_pos h, Nat.mul_one]
  · rw [if_neg h, if_neg h, Nat.mul_zero]
/-- where walks of k steps end, as often as there are walks -/
def pz_ends (s : Nat → List Nat) (a : Nat) : Nat → List Nat
  | 0 => [a]
  | k + 1 => (pz_ends s a k).flatMap s
theorem pz_flat_one (l : List Nat) : l.flatMap (fun x => [x]) = l := by
  induction l with
  | nil => rfl
  | cons x l ih => simp only [List.flatMap_cons, ih]; rfl
theorem pz_ends_add (s : Nat → List Nat) (a i : Nat) : ∀ j, pz_ends s a (i + j) = (pz_ends s a i).flatMap (fun x => pz_ends s x j)
  | 0 => (pz_flat_one _).symm
  | j + 1 => by
    show (pz_ends s a (i + j)).flatMap s = _
    rw [pz_ends_add s a i j, List.flatMap_assoc]
    rfl
theorem pz_ends_1 (s : Nat → List Nat) (a k : Nat) : pz_ends s a (k + 1) = (s a).flatMap (fun x => pz_ends s x k) := by
  rw [Nat.add_comm, pz_ends_add]
  simp [pz_ends]
theorem pz_rev {s r : Nat → List Nat} (h : ∀ a b, pz_cnt b (s a) = pz_cnt a (r b)) : ∀ k a b, pz_cnt b (pz_ends s a k) = pz_cnt a (pz_ends r b k)
  | 0, a, b => by
    simp only [pz_ends, pz_cnt_one]
    by_cases e : a = b
    · subst e; rfl
    · rw [if_neg e, if_neg (fun h => e h.symm)]
  | k + 1, a, b => by
    show pz_cnt b ((pz_ends s a k).flatMap s) = _
    rw [pz_cnt_flat, pz_sum_congr (fun x _ => h x b), pz_pair, pz_sum_congr (fun y _ => pz_rev h k a y), ← pz_cnt_flat, ← pz_ends_1]
theorem pz_rev_mem {s r : Nat → List Nat} (h : ∀ a b, pz_cnt b (s a) = pz_cnt a (r b)) {k a b : Nat} (hm : b ∈ pz_ends s a k) : a ∈ pz_ends r b k := by
  have h1 := pz_cnt_pos hm
  rw [pz_rev h] at h1
  exact pz_cnt_mem (by omega)
/-- b lies k steps from a -/
def pz_dist (s : Nat → List Nat) (a b k : Nat) : Prop := b ∈ pz_ends s a k ∧ ∀ j, j < k → b ∉ pz_ends s a j
theorem pz_dist_eq {s : Nat → List Nat} {a b j k : Nat} (h1 : pz_dist s a b j) (h2 : pz_dist s a b k) : j = k := by
  rcases Nat.lt_trichotomy j k with h | h | h
  · exact absurd h1.1 (h2.2 j h)
  · exact h
  · exact absurd h2.1 (h1.2 k h)
theorem pz_dist_of {s : Nat → List Nat} {a b k : Nat} (h : b ∈ pz_ends s a k) : ∃ j, j ≤ k ∧ pz_dist s a b j := by
  induction k using Nat.strongRecOn with
  | _ k ih =>
    by_cases e : ∃ j, j < k ∧ b ∈ pz_ends s a j
    · obtain ⟨j, hj, hb⟩ := e
      obtain ⟨i, hi, hd⟩ := ih j hj hb
      exact ⟨i, by omega, hd⟩
    · exact ⟨k, Nat.le_refl k, h, fun j hj hb => e ⟨j, hj, hb⟩⟩
theorem pz_dist_rev {s r : Nat → List Nat} (h : ∀ a b, pz_cnt b (s a) = pz_cnt a (r b)) {a b k : Nat} (hd : pz_dist s a b k) : pz_dist r b a k :=
  ⟨pz_rev_mem h hd.1, fun j hj hm => hd.2 j hj (pz_rev_mem (fun x y => (h y x).symm) hm)⟩
theorem pz_dist_self (s : Nat → List Nat) (a : Nat) : pz_dist s a a 0 := ⟨List.mem_singleton.mpr rfl, fun j hj => by omega⟩
/-- a state on a shortest row: its two distances -/
theorem pz_dist_mid {s : Nat → List Nat} {a b x i j : Nat} (hd : pz_dist s a b (i + j)) (h1 : x ∈ pz_ends s a i) (h2 : b ∈ pz_ends s x j) : pz_dist s a x i ∧ pz_dist s x b j := by
  refine ⟨⟨h1, fun k hk hm => ?_⟩, h2, fun k hk hm => ?_⟩
  · refine hd.2 (k + j) (by omega) ?_
    rw [pz_ends_add]
    exact List.mem_flatMap.mpr ⟨x, hm, h2⟩
  · refine hd.2 (i + k) (by omega) ?_
    rw [pz_ends_add]
    exact List.mem_flatMap.mpr ⟨x, h1, hm⟩
theorem pz_ends_mid {s : Nat → List Nat} {a b i j : Nat} (h : b ∈ pz_ends s a (i + j)) : ∃ x, x ∈ pz_ends s a i ∧ b ∈ pz_ends s x j := by
  rw [pz_ends_add] at h
  exact List.mem_flatMap.mp h
/-- the count of shortest rows, by the states in their middle -/
theorem pz_cnt_mid {s r : Nat → List Nat} (h : ∀ a b, pz_cnt b (s a) = pz_cnt a (r b)) {a b i j : Nat} {L : List Nat} (hn : L.Nodup) (hL : ∀ x, x ∈ pz_ends s a i → b ∈ pz_ends s x j → x ∈ L) : pz_cnt b (pz_ends s a (i + j)) = pz_sum (fun x => pz_cnt x (pz_ends s a i) * pz_cnt x (pz_ends r b j)) L := by
  rw [pz_ends_add, pz_cnt_flat, pz_group hn _ _ (fun x hx hxL => ?_)]
  · exact pz_sum_congr (fun x _ => by rw [pz_rev h j x b])
  · refine pz_cnt_zero (fun hb => hxL (hL x hx hb))
