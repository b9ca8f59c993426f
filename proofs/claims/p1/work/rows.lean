section
/-! PURE: sums over lists, counts, walks -/
def pz_sum (f : Nat → Nat) : List Nat → Nat
  | [] => 0
  | x :: l => f x + pz_sum f l
theorem pz_sum_app (f : Nat → Nat) (l l' : List Nat) : pz_sum f (l ++ l') = pz_sum f l + pz_sum f l' := by
  induction l with
  | nil => simp [pz_sum]
  | cons x l ih => simp only [List.cons_append, pz_sum, ih]; omega
theorem pz_sum_congr {f g : Nat → Nat} {l : List Nat} (h : ∀ x, x ∈ l → f x = g x) : pz_sum f l = pz_sum g l := by
  induction l with
  | nil => rfl
  | cons x l ih =>
    simp only [pz_sum]
    rw [h x List.mem_cons_self, ih (fun y hy => h y (List.mem_cons_of_mem _ hy))]
theorem pz_sum_add (f g : Nat → Nat) (l : List Nat) : pz_sum (fun x => f x + g x) l = pz_sum f l + pz_sum g l := by
  induction l with
  | nil => rfl
  | cons x l ih => simp only [pz_sum, ih]; omega
theorem pz_sum_mul (c : Nat) (f : Nat → Nat) (l : List Nat) : pz_sum (fun x => c * f x) l = c * pz_sum f l := by
  induction l with
  | nil => rfl
  | cons x l ih => simp only [pz_sum, ih, Nat.mul_add]
theorem pz_sum_zero {f : Nat → Nat} {l : List Nat} (h : ∀ x, x ∈ l → f x = 0) : pz_sum f l = 0 := by
  induction l with
  | nil => rfl
  | cons x l ih =>
    simp only [pz_sum]
    rw [h x List.mem_cons_self, ih (fun y hy => h y (List.mem_cons_of_mem _ hy))]
theorem pz_sum_swap (F : Nat → Nat → Nat) (l l' : List Nat) : pz_sum (fun x => pz_sum (fun y => F x y) l') l = pz_sum (fun y => pz_sum (fun x => F x y) l) l' := by
  induction l with
  | nil => exact (pz_sum_zero (fun _ _ => rfl)).symm
  | cons x l ih =>
    simp only [pz_sum, ih]
    rw [← pz_sum_add]
theorem pz_sum_flat (f : Nat → Nat) (g : Nat → List Nat) (l : List Nat) : pz_sum f (l.flatMap g) = pz_sum (fun x => pz_sum f (g x)) l := by
  induction l with
  | nil => rfl
  | cons x l ih => simp only [List.flatMap_cons, pz_sum_app, pz_sum, ih]
def pz_cnt (c : Nat) (l : List Nat) : Nat := pz_sum (fun x => if x = c then 1 else 0) l
theorem pz_cnt_nil (c : Nat) : pz_cnt c [] = 0 := rfl
theorem pz_cnt_one (c a : Nat) : pz_cnt c [a] = if a = c then 1 else 0 := by simp [pz_cnt, pz_sum]
theorem pz_cnt_app (c : Nat) (l l' : List Nat) : pz_cnt c (l ++ l') = pz_cnt c l + pz_cnt c l' := pz_sum_app _ _ _
theorem pz_cnt_zero {c : Nat} {l : List Nat} (h : c ∉ l) : pz_cnt c l = 0 := pz_sum_zero (fun x hx => if_neg (fun (e : x = c) => h (e ▸ hx)))
theorem pz_cnt_pos {c : Nat} {l : List Nat} (h : c ∈ l) : 0 < pz_cnt c l := by
  induction l with
  | nil => cases h
  | cons x l ih =>
    simp only [pz_cnt, pz_sum]
    rcases List.mem_cons.mp h with e | e
    · subst e; simp; omega
    · have := ih e; unfold pz_cnt at this; omega
theorem pz_cnt_mem {c : Nat} {l : List Nat} (h : pz_cnt c l ≠ 0) : c ∈ l := by
  by_cases e : c ∈ l
  · exact e
  · exact absurd (pz_cnt_zero e) h
theorem pz_cnt_flat (c : Nat) (g : Nat → List Nat) (l : List Nat) : pz_cnt c (l.flatMap g) = pz_sum (fun x => pz_cnt c (g x)) l := pz_sum_flat _ _ _
theorem pz_pair (l l' : List Nat) : pz_sum (fun x => pz_cnt x l') l = pz_sum (fun y => pz_cnt y l) l' := by
  unfold pz_cnt
  rw [pz_sum_swap]
  refine pz_sum_congr (fun y _ => pz_sum_congr (fun x _ => ?_))
  by_cases e : x = y
  · subst e; rfl
  · rw [if_neg e, if_neg (fun h => e h.symm)]
theorem pz_pick {L : List Nat} (hn : L.Nodup) (f : Nat → Nat) (x : Nat) : pz_sum (fun y => if x = y then f y else 0) L = if x ∈ L then f x else 0 := by
  induction L with
  | nil => simp [pz_sum]
  | cons a L ih =>
    have hn' := List.nodup_cons.mp hn
    simp only [pz_sum, ih hn'.2]
    by_cases h : x = a
    · subst h; simp [hn'.1]
    · simp [h]
theorem pz_group {L : List Nat} (hn : L.Nodup) (f : Nat → Nat) (l : List Nat) (h0 : ∀ x, x ∈ l → x ∉ L → f x = 0) : pz_sum f l = pz_sum (fun y => pz_cnt y l * f y) L := by
  have h1 : pz_sum f l = pz_sum (fun x => pz_sum (fun y => if x = y then f y else 0) L) l := pz_sum_congr (fun x hx => by
    rw [pz_pick hn]
    by_cases h : x ∈ L
    · rw [if_pos h]
    · rw [if_neg h, h0 x hx h])
  rw [h1, pz_sum_swap]
  refine pz_sum_congr (fun y _ => ?_)
  unfold pz_cnt
  rw [Nat.mul_comm, ← pz_sum_mul]
  refine pz_sum_congr (fun x _ => ?_)
  by_cases h : x = y
  · rw [if_pos h, if_pos h, Nat.mul_one]
  · rw [if_neg h, if_neg h, Nat.mul_zero]
/-- where walks of k steps end, as often as there are walks -/
def pz_ends (s : Nat → List Nat) (a : Nat) : Nat → List Nat
  | 0 => [a]
  | k + 1 => (pz_ends s a k).flatMap s
theorem pz_flat_one (l : List Nat) : l.flatMap (fun x => [x]) = l := by
  induction l with
  | nil => rfl
  | cons x l ih => simp only [List.flatMap_cons, ih]; rfl
theorem pz_ends_add (s : Nat → List Nat) (a i : Nat) : ∀ j, pz_ends s a (i + j) = (pz_ends s a i).flatMap (fun x => pz_ends s x j)
  | 0 => (pz_flat_one _).symm
  | j + 1 => by
    show (pz_ends s a (i + j)).flatMap s = _
    rw [pz_ends_add s a i j, List.flatMap_assoc]
    rfl
theorem pz_ends_1 (s : Nat → List Nat) (a k : Nat) : pz_ends s a (k + 1) = (s a).flatMap (fun x => pz_ends s x k) := by
  rw [Nat.add_comm, pz_ends_add]
  simp [pz_ends]
theorem pz_rev {s r : Nat → List Nat} (h : ∀ a b, pz_cnt b (s a) = pz_cnt a (r b)) : ∀ k a b, pz_cnt b (pz_ends s a k) = pz_cnt a (pz_ends r b k)
  | 0, a, b => by
    simp only [pz_ends, pz_cnt_one]
    by_cases e : a = b
    · subst e; rfl
    · rw [if_neg e, if_neg (fun h => e h.symm)]
  | k + 1, a, b => by
    show pz_cnt b ((pz_ends s a k).flatMap s) = _
    rw [pz_cnt_flat, pz_sum_congr (fun x _ => h x b), pz_pair, pz_sum_congr (fun y _ => pz_rev h k a y), ← pz_cnt_flat, ← pz_ends_1]
theorem pz_rev_mem {s r : Nat → List Nat} (h : ∀ a b, pz_cnt b (s a) = pz_cnt a (r b)) {k a b : Nat} (hm : b ∈ pz_ends s a k) : a ∈ pz_ends r b k := by
  have h1 := pz_cnt_pos hm
  rw [pz_rev h] at h1
  exact pz_cnt_mem (by omega)
/-- b lies k steps from a -/
def pz_dist (s : Nat → List Nat) (a b k : Nat) : Prop := b ∈ pz_ends s a k ∧ ∀ j, j < k → b ∉ pz_ends s a j
theorem pz_dist_eq {s : Nat → List Nat} {a b j k : Nat} (h1 : pz_dist s a b j) (h2 : pz_dist s a b k) : j = k := by
  rcases Nat.lt_trichotomy j k with h | h | h
  · exact absurd h1.1 (h2.2 j h)
  · exact h
  · exact absurd h2.1 (h1.2 k h)
theorem pz_dist_of {s : Nat → List Nat} {a b k : Nat} (h : b ∈ pz_ends s a k) : ∃ j, j ≤ k ∧ pz_dist s a b j := by
  induction k using Nat.strongRecOn with
  | _ k ih =>
    by_cases e : ∃ j, j < k ∧ b ∈ pz_ends s a j
    · obtain ⟨j, hj, hb⟩ := e
      obtain ⟨i, hi, hd⟩ := ih j hj hb
      exact ⟨i, by omega, hd⟩
    · exact ⟨k, Nat.le_refl k, h, fun j hj hb => e ⟨j, hj, hb⟩⟩
theorem pz_dist_rev {s r : Nat → List Nat} (h : ∀ a b, pz_cnt b (s a) = pz_cnt a (r b)) {a b k : Nat} (hd : pz_dist s a b k) : pz_dist r b a k :=
  ⟨pz_rev_mem h hd.1, fun j hj hm => hd.2 j hj (pz_rev_mem (fun x y => (h y x).symm) hm)⟩
theorem pz_dist_self (s : Nat → List Nat) (a : Nat) : pz_dist s a a 0 := ⟨List.mem_singleton.mpr rfl, fun j hj => by omega⟩
/-- a state on a shortest row: its two distances -/
theorem pz_dist_mid {s : Nat → List Nat} {a b x i j : Nat} (hd : pz_dist s a b (i + j)) (h1 : x ∈ pz_ends s a i) (h2 : b ∈ pz_ends s x j) : pz_dist s a x i ∧ pz_dist s x b j := by
  refine ⟨⟨h1, fun k hk hm => ?_⟩, h2, fun k hk hm => ?_⟩
  · refine hd.2 (k + j) (by omega) ?_
    rw [pz_ends_add]
    exact List.mem_flatMap.mpr ⟨x, hm, h2⟩
  · refine hd.2 (i + k) (by omega) ?_
    rw [pz_ends_add]
    exact List.mem_flatMap.mpr ⟨x, h1, hm⟩
theorem pz_ends_mid {s : Nat → List Nat} {a b i j : Nat} (h : b ∈ pz_ends s a (i + j)) : ∃ x, x ∈ pz_ends s a i ∧ b ∈ pz_ends s x j := by
  rw [pz_ends_add] at h
  exact List.mem_flatMap.mp h
/-- the count of shortest rows, by the states in their middle -/
theorem pz_cnt_mid {s r : Nat → List Nat} (h : ∀ a b, pz_cnt b (s a) = pz_cnt a (r b)) {a b i j : Nat} {L : List Nat} (hn : L.Nodup) (hL : ∀ x, x ∈ pz_ends s a i → b ∈ pz_ends s x j → x ∈ L) : pz_cnt b (pz_ends s a (i + j)) = pz_sum (fun x => pz_cnt x (pz_ends s a i) * pz_cnt x (pz_ends r b j)) L := by
  rw [pz_ends_add, pz_cnt_flat, pz_group hn _ _ (fun x hx hxL => ?_)]
  · exact pz_sum_congr (fun x _ => by rw [pz_rev h j x b])
  · refine pz_cnt_zero (fun hb => hxL (hL x hx hb))
end
section
/-! PURE: the search by breadth as both programs do it: states in the order in which they are come upon, how far, how many ways -/
abbrev pz_S : Type := List Nat × (Nat → Option Nat) × (Nat → Int64)
def pz_up {α : Type} (f : Nat → α) (k : Nat) (v : α) : Nat → α := fun j => if j = k then v else f j
theorem pz_up_s {α : Type} (f : Nat → α) (k : Nat) (v : α) : pz_up f k v k = v := if_pos rfl
theorem pz_up_n {α : Type} (f : Nat → α) {k j : Nat} (v : α) (h : j ≠ k) : pz_up f k v j = f j := if_neg h
def pz_take (d : Nat) (S : pz_S) (c : Nat) : pz_S := if S.2.1 c = none then (S.1 ++ [c], pz_up S.2.1 c (some d), pz_up S.2.2 c 0) else S
def pz_bump (d : Nat) (w : Int64) (S : pz_S) (c : Nat) : pz_S := if S.2.1 c = some d then (S.1, S.2.1, pz_up S.2.2 c (S.2.2 c + w)) else S
def pz_vis (d : Nat) (w : Int64) (S : pz_S) (c : Nat) : pz_S := pz_bump d w (pz_take d S c) c
def pz_ok (S : pz_S) : Prop := S.1.Nodup ∧ ∀ c, c ∈ S.1 ↔ S.2.1 c ≠ none
theorem pz_vis_1 (d : Nat) (w : Int64) (S : pz_S) (x : Nat) : (pz_vis d w S x).1 = if S.2.1 x = none then S.1 ++ [x] else S.1 := by
  unfold pz_vis pz_bump pz_take
  by_cases h : S.2.1 x = none
  · simp [h, pz_up]
  · simp only [h, if_false]
    by_cases e : S.2.1 x = some d
    · simp [e]
    · simp [e]
theorem pz_vis_2 (d : Nat) (w : Int64) (S : pz_S) (x c : Nat) : (pz_vis d w S x).2.1 c = if c = x ∧ S.2.1 x = none then some d else S.2.1 c := by
  unfold pz_vis pz_bump pz_take
  by_cases h : S.2.1 x = none
  · simp [h, pz_up]
  · simp only [h, if_false, and_false]
    by_cases e : S.2.1 x = some d
    · simp [e]
    · simp [e]
theorem pz_vis_3 (d : Nat) (w : Int64) (S : pz_S) (x c : Nat) : (pz_vis d w S x).2.2 c = if c = x then (if S.2.1 x = none then w else if S.2.1 x = some d then S.2.2 x + w else S.2.2 x) else S.2.2 c := by
  unfold pz_vis pz_bump pz_take
  by_cases h : S.2.1 x = none
  · by_cases hc : c = x
    · simp [h, pz_up, hc]
    · simp [h, pz_up, hc]
  · simp only [h, if_false]
    by_cases e : S.2.1 x = some d
    · by_cases hc : c = x
      · simp [e, pz_up, hc]
      · simp [e, pz_up, hc]
    · by_cases hc : c = x
      · simp [e, hc]
      · simp [e, hc]
theorem pz_vis_ok {d : Nat} {w : Int64} {S : pz_S} {x : Nat} (h : pz_ok S) : pz_ok (pz_vis d w S x) := by
  obtain ⟨h1, h2⟩ := h
  refine ⟨?_, fun c => ?_⟩
  · rw [pz_vis_1]
    by_cases e : S.2.1 x = none
    · rw [if_pos e]
      have hx : x ∉ S.1 := fun hm => (h2 x).mp hm e
      refine List.nodup_append.mpr ⟨h1, by simp, fun a ha b hb => ?_⟩
      rw [List.mem_singleton.mp hb]
      exact fun e2 => hx (e2 ▸ ha)
    · rw [if_neg e]; exact h1
  · rw [pz_vis_1, pz_vis_2]
    by_cases e : S.2.1 x = none
    · rw [if_pos e, List.mem_append, List.mem_singleton]
      by_cases hc : c = x
      · simp [hc, e]
      · simp [hc, h2 c]
    · rw [if_neg e, if_neg (fun q => e q.2)]
      exact h2 c
theorem pz_fold_ok {d : Nat} {w : Int64} : ∀ {l : List Nat} {S : pz_S}, pz_ok S → pz_ok (l.foldl (pz_vis d w) S)
  | [], _, h => h
  | _ :: l, _, h => pz_fold_ok (l := l) (pz_vis_ok h)
theorem pz_fold_2 {d : Nat} {w : Int64} : ∀ (l : List Nat) (S : pz_S) (c : Nat), (l.foldl (pz_vis d w) S).2.1 c = if S.2.1 c = none ∧ c ∈ l then some d else S.2.1 c
  | [], S, c => by simp
  | x :: l, S, c => by
    show (l.foldl (pz_vis d w) (pz_vis d w S x)).2.1 c = _
    rw [pz_fold_2 l, pz_vis_2]
    by_cases hc : c = x
    · subst hc
      by_cases e : S.2.1 c = none
      · simp [e]
      · simp [e]
    · simp [hc]
theorem pz_fold_1 {d : Nat} {w : Int64} : ∀ (l : List Nat) (S : pz_S), ∃ N : List Nat, (l.foldl (pz_vis d w) S).1 = S.1 ++ N ∧ ∀ c, c ∈ N → S.2.1 c = none ∧ c ∈ l
  | [], S => ⟨[], by simp, fun c h => by cases h⟩
  | x :: l, S => by
    obtain ⟨N, h1, h2⟩ := pz_fold_1 (d := d) (w := w) l (pz_vis d w S x)
    by_cases e : S.2.1 x = none
    · refine ⟨x :: N, ?_, fun c hc => ?_⟩
      · show (l.foldl (pz_vis d w) (pz_vis d w S x)).1 = _
        rw [h1, pz_vis_1, if_pos e]
        simp
      · rcases List.mem_cons.mp hc with q | q
        · subst q; exact ⟨e, List.mem_cons_self⟩
        · obtain ⟨a, b⟩ := h2 c q
          rw [pz_vis_2] at a
          by_cases z : c = x
          · subst z; simp [e] at a
          · exact ⟨by simpa [z] using a, List.mem_cons_of_mem _ b⟩
    · refine ⟨N, ?_, fun c hc => ?_⟩
      · show (l.foldl (pz_vis d w) (pz_vis d w S x)).1 = _
        rw [h1, pz_vis_1, if_neg e]
      · obtain ⟨a, b⟩ := h2 c hc
        rw [pz_vis_2, if_neg (fun q => e q.2)] at a
        exact ⟨a, List.mem_cons_of_mem _ b⟩
theorem pz_lN0 : lN 0 = 0 := rfl
theorem pz_fold_3 {d w : Nat} : ∀ (l : List Nat) (S : pz_S) (c : Nat), (l.foldl (pz_vis d (lN w)) S).2.2 c = (if S.2.1 c = none ∧ c ∈ l then 0 else S.2.2 c) + (if (l.foldl (pz_vis d (lN w)) S).2.1 c = some d then lN (w * pz_cnt c l) else 0)
  | [], S, c => by
    show S.2.2 c = (if S.2.1 c = none ∧ c ∈ ([] : List Nat) then 0 else S.2.2 c) + (if S.2.1 c = some d then lN (w * pz_cnt c []) else 0)
    rw [if_neg (fun q => List.not_mem_nil q.2), pz_cnt_nil, Nat.mul_zero, pz_lN0]
    by_cases e : S.2.1 c = some d
    · rw [if_pos e, Int64.add_zero]
    · rw [if_neg e, Int64.add_zero]
  | x :: l, S, c => by
    have ih := pz_fold_3 (d := d) (w := w) l (pz_vis d (lN w) S x) c
    have h2 := pz_fold_2 (d := d) (w := lN w) l (pz_vis d (lN w) S x) c
    show (l.foldl (pz_vis d (lN w)) (pz_vis d (lN w) S x)).2.2 c = _ + (if (l.foldl (pz_vis d (lN w)) (pz_vis d (lN w) S x)).2.1 c = some d then _ else _)
    rw [ih, h2, pz_vis_2, pz_vis_3]
    have hcnt : pz_cnt c (x :: l) = (if x = c then 1 else 0) + pz_cnt c l := rfl
    rw [hcnt]
    by_cases hc : c = x
    · subst hc
      rw [if_pos rfl]
      by_cases e : S.2.1 c = none
      · simp only [e, and_self, if_true, List.mem_cons, true_or, reduceCtorEq, false_and, if_false]
        rw [Nat.mul_add, Nat.mul_one, ← lN_add, Int64.zero_add]
      · by_cases e2 : S.2.1 c = some d
        · simp only [e2, reduceCtorEq, and_false, if_false, false_and, if_true]
          rw [Nat.mul_add, Nat.mul_one, ← lN_add, Int64.add_assoc]
        · simp only [e, e2, and_false, if_false, false_and]
    · have hx : ¬ x = c := fun h => hc h.symm
      simp only [hc, hx, false_and, if_false, List.mem_cons, false_or, Nat.zero_add]
/-- what holds when the first n states have been gone out from -/
def pz_inv (s : Nat → List Nat) (r n : Nat) (S : pz_S) : Prop :=
  pz_ok S ∧ S.2.1 r = some 0 ∧ (∀ c d : Nat, S.2.1 c = some d → c ∈ pz_ends s r d) ∧
  (∀ i j a b d e : Nat, i ≤ j → S.1[i]? = some a → S.1[j]? = some b → S.2.1 a = some d → S.2.1 b = some e → d ≤ e) ∧
  (∀ j a d y : Nat, j < n → S.1[j]? = some a → S.2.1 a = some d → y ∈ s a → ∃ e, S.2.1 y = some e ∧ e ≤ d + 1) ∧
  (∀ x d : Nat, S.1[n]? = some x → S.2.1 x = some d → ∀ c e : Nat, S.2.1 c = some e → e ≤ d + 1) ∧
  (∀ c d : Nat, S.2.1 c = some (d + 1) → S.2.2 c = lN (pz_sum (fun x => if S.2.1 x = some d then pz_cnt x (pz_ends s r d) * pz_cnt c (s x) else 0) (S.1.take n))) ∧ S.2.2 r = 1
def pz_S0 (r : Nat) : pz_S := ([r], pz_up (fun _ => none) r (some 0), pz_up (fun _ => 0) r 1)
theorem pz_inv_0 (s : Nat → List Nat) (r : Nat) : pz_inv s r 0 (pz_S0 r) := by
  have hf : ∀ c d, (pz_S0 r).2.1 c = some d → c = r ∧ d = 0 := by
    intro c d h
    by_cases e : c = r
    · subst e
      simp only [pz_S0, pz_up_s, Option.some.injEq] at h
      exact ⟨rfl, h.symm⟩
    · simp only [pz_S0] at h
      rw [pz_up_n _ _ e] at h
      cases h
  refine ⟨⟨by simp [pz_S0], fun c => ?_⟩, by simp [pz_S0, pz_up], fun c d h => ?_, fun i j a b d e _ _ _ h1 h2 => ?_, fun j a d y hj => by omega, fun x d _ _ c e h => ?_, fun c d h => ?_, by simp [pz_S0, pz_up]⟩
  · by_cases e : c = r
    · simp [pz_S0, pz_up, e]
    · simp [pz_S0, pz_up, e]
  · obtain ⟨rfl, rfl⟩ := hf c d h
    exact List.mem_singleton.mpr rfl
  · rw [(hf a d h1).2]; exact Nat.zero_le _
  · rw [(hf c e h).2]; exact Nat.zero_le _
  · exact absurd (hf c (d + 1) h).2 (by omega)
theorem pz_mem_drop {l : List Nat} {x n : Nat} (hx : x ∈ l) (hn : x ∉ l.take n) : ∃ i, n ≤ i ∧ l[i]? = some x := by
  rw [← List.take_append_drop n l] at hx
  rcases List.mem_append.mp hx with h | h
  · exact absurd h hn
  · obtain ⟨j, hj⟩ := List.getElem?_of_mem h
    rw [List.getElem?_drop] at hj
    exact ⟨n + j, by omega, hj⟩
theorem pz_claim {s : Nat → List Nat} {r n : Nat} {S : pz_S} (h : pz_inv s r n S) : ∀ k c, c ∈ pz_ends s r k → (∃ e, e ≤ k ∧ S.2.1 c = some e) ∨ (∃ x d, S.1[n]? = some x ∧ S.2.1 x = some d ∧ d < k)
  | 0, c, hc => by
    rw [List.mem_singleton.mp hc]
    exact Or.inl ⟨0, Nat.le_refl 0, h.2.1⟩
  | k + 1, c, hc => by
    obtain ⟨x, hx, hcx⟩ := List.mem_flatMap.mp hc
    rcases pz_claim h k x hx with ⟨e, he, hf⟩ | ⟨y, d, h1, h2, h3⟩
    · have hm : x ∈ S.1 := (h.1.2 x).mpr (by rw [hf]; exact fun q => by cases q)
      obtain ⟨j, hj⟩ := List.getElem?_of_mem hm
      by_cases hjn : j < n
      · obtain ⟨e', h1, h2⟩ := h.2.2.2.2.1 j x e c hjn hj hf hcx
        exact Or.inl ⟨e', by omega, h1⟩
      · have hlt : n < S.1.length := by
          have := (List.getElem?_eq_some_iff.mp hj).1
          omega
        have hn : S.1[n]? = some S.1[n] := List.getElem?_eq_some_iff.mpr ⟨hlt, rfl⟩
        have hne := (h.1.2 S.1[n]).mp (List.mem_of_getElem? hn)
        cases hd : S.2.1 S.1[n] with
        | none => exact absurd hd hne
        | some d =>
          have := h.2.2.2.1 n j _ _ d e (by omega) hn hj hd hf
          exact Or.inr ⟨_, d, hn, hd, by omega⟩
    · exact Or.inr ⟨y, d, h1, h2, by omega⟩
theorem pz_exact {s : Nat → List Nat} {r n : Nat} {S : pz_S} (h : pz_inv s r n S) {c d : Nat} (hc : S.2.1 c = some d) : pz_dist s r c d := by
  refine ⟨h.2.2.1 c d hc, fun k hk hm => ?_⟩
  rcases pz_claim h k c hm with ⟨e, he, hf⟩ | ⟨x, e, h1, h2, h3⟩
  · have := hc.symm.trans hf
    cases this
    omega
  · have := h.2.2.2.2.2.1 x e h1 h2 c d hc
    omega
theorem pz_full {s : Nat → List Nat} {r n : Nat} {S : pz_S} (h : pz_inv s r n S) {c d : Nat} (hc : S.2.1 c = some d) (hp : ∀ i a e, n ≤ i → S.1[i]? = some a → S.2.1 a = some e → d ≤ e) : S.2.2 c = lN (pz_cnt c (pz_ends s r d)) := by
  cases d with
  | zero =>
    have := h.2.2.1 c 0 hc
    rw [List.mem_singleton.mp this, h.2.2.2.2.2.2.2]
    simp only [pz_ends, pz_cnt_one, if_true]
    rfl
  | succ d =>
    rw [h.2.2.2.2.2.2.1 c d hc]
    congr 1
    show _ = pz_cnt c ((pz_ends s r d).flatMap s)
    have hnd : (S.1.take n).Nodup := (List.take_sublist n S.1).nodup h.1.1
    rw [pz_cnt_flat, pz_group hnd (fun x => pz_cnt c (s x)) (pz_ends s r d) (fun x hx hxn => ?_)]
    · refine pz_sum_congr (fun y hy => ?_)
      obtain ⟨j, hj⟩ := List.getElem?_of_mem hy
      have hjn : j < n := by
        have := (List.getElem?_eq_some_iff.mp hj).1
        have := List.length_take_le n S.1
        omega
      rw [List.getElem?_take_of_lt hjn] at hj
      have hne := (h.1.2 y).mp (List.mem_of_getElem? hj)
      cases he : S.2.1 y with
      | none => exact absurd he hne
      | some e =>
        by_cases hed : e = d
        · rw [if_pos (by rw [hed])]
        · rw [if_neg (fun q => hed (Option.some.inj q))]
          symm
          rw [Nat.mul_eq_zero]
          rcases Nat.lt_or_gt_of_ne hed with q | q
          · right
            refine pz_cnt_zero (fun hm => ?_)
            obtain ⟨e', h1, h2⟩ := h.2.2.2.2.1 j y e c hjn hj he hm
            have := hc.symm.trans h1
            cases this
            omega
          · left
            exact pz_cnt_zero ((pz_exact h he).2 d q)
    · exfalso
      rcases pz_claim h d x hx with ⟨e, he, hf⟩ | ⟨y, e, h1, h2, h3⟩
      · have hm : x ∈ S.1 := (h.1.2 x).mpr (by rw [hf]; exact fun q => by cases q)
        obtain ⟨i, hi, hxi⟩ := pz_mem_drop hm hxn
        have := hp i x e hi hxi hf
        omega
      · have := hp n y e (Nat.le_refl n) h1 h2
        omega
theorem pz_inv_step {s : Nat → List Nat} {r n : Nat} {S : pz_S} (h : pz_inv s r n S) {x d : Nat} (hx : S.1[n]? = some x) (hd : S.2.1 x = some d) : pz_inv s r (n + 1) ((s x).foldl (pz_vis (d + 1) (S.2.2 x)) S) := by
  have hw : S.2.2 x = lN (pz_cnt x (pz_ends s r d)) := pz_full h hd (fun i a e hi ha he => h.2.2.2.1 n i x a d e hi hx ha hd he)
  rw [hw]
  generalize hS' : (s x).foldl (pz_vis (d + 1) (lN (pz_cnt x (pz_ends s r d)))) S = S'
  have hok : pz_ok S' := by rw [← hS']; exact pz_fold_ok h.1
  have h2 : ∀ c, S'.2.1 c = if S.2.1 c = none ∧ c ∈ s x then some (d + 1) else S.2.1 c := fun c => by rw [← hS']; exact pz_fold_2 _ _ _
  have h3 : ∀ c, S'.2.2 c = (if S.2.1 c = none ∧ c ∈ s x then 0 else S.2.2 c) + (if S'.2.1 c = some (d + 1) then lN (pz_cnt x (pz_ends s r d) * pz_cnt c (s x)) else 0) := fun c => by rw [← hS']; exact pz_fold_3 _ _ _
  obtain ⟨N, hN, hN2⟩ : ∃ N : List Nat, S'.1 = S.1 ++ N ∧ ∀ c, c ∈ N → S.2.1 c = none ∧ c ∈ s x := by rw [← hS']; exact pz_fold_1 _ _
  have hold : ∀ c e, S.2.1 c = some e → S'.2.1 c = some e := fun c e hc => by rw [h2, if_neg (fun q => by rw [hc] at q; cases q.1), hc]
  have hcase : ∀ c e, S'.2.1 c = some e → S.2.1 c = some e ∨ (S.2.1 c = none ∧ c ∈ s x ∧ e = d + 1) := by
    intro c e hc
    rw [h2] at hc
    by_cases q : S.2.1 c = none ∧ c ∈ s x
    · rw [if_pos q] at hc
      exact Or.inr ⟨q.1, q.2, (Option.some.inj hc).symm⟩
    · rw [if_neg q] at hc
      exact Or.inl hc
  have hle : ∀ c e, S'.2.1 c = some e → e ≤ d + 1 := by
    intro c e hc
    rcases hcase c e hc with q | q
    · exact h.2.2.2.2.2.1 x d hx hd c e q
    · omega
  have hlen : n < S.1.length := (List.getElem?_eq_some_iff.mp hx).1
  have hx' : S'.1[n]? = some x := by rw [hN, List.getElem?_append_left hlen]; exact hx
  refine ⟨hok, hold r 0 h.2.1, fun c e hc => ?_, fun i j a b e f hij ha hb he hf => ?_, fun j a e y hj ha he hy => ?_, fun y e hy he c f hc => ?_, fun c e hc => ?_, ?_⟩
  · rcases hcase c e hc with q | ⟨-, q2, q3⟩
    · exact h.2.2.1 c e q
    · subst q3
      exact List.mem_flatMap.mpr ⟨x, h.2.2.1 x d hd, q2⟩
  · by_cases hjl : j < S.1.length
    · rw [hN, List.getElem?_append_left hjl] at hb
      rw [hN, List.getElem?_append_left (by omega)] at ha
      have ha0 := (h.1.2 a).mp (List.mem_of_getElem? ha)
      have hb0 := (h.1.2 b).mp (List.mem_of_getElem? hb)
      rcases hcase a e he with q | q
      · rcases hcase b f hf with z | z
        · exact h.2.2.2.1 i j a b e f hij ha hb q z
        · exact absurd z.1 hb0
      · exact absurd q.1 ha0
    · rw [hN, List.getElem?_append_right (by omega)] at hb
      have hbN := hN2 b (List.mem_of_getElem? hb)
      rcases hcase b f hf with z | z
      · rw [hbN.1] at z; cases z
      · rw [z.2.2]; exact hle a e he
  · by_cases hjn : j = n
    · subst hjn
      have : a = x := Option.some.inj (ha.symm.trans hx')
      subst this
      have : e = d := Option.some.inj (he.symm.trans (hold a d hd))
      subst this
      by_cases q : S.2.1 y = none
      · exact ⟨e + 1, by rw [h2, if_pos ⟨q, hy⟩], Nat.le_refl _⟩
      · cases hf : S.2.1 y with
        | none => exact absurd hf q
        | some f => exact ⟨f, hold y f hf, h.2.2.2.2.2.1 a e hx hd y f hf⟩
    · have hjl : j < S.1.length := by omega
      rw [hN, List.getElem?_append_left hjl] at ha
      have ha0 := (h.1.2 a).mp (List.mem_of_getElem? ha)
      rcases hcase a e he with q | q
      · obtain ⟨f, f1, f2⟩ := h.2.2.2.2.1 j a e y (by omega) ha q hy
        exact ⟨f, hold y f f1, f2⟩
      · exact absurd q.1 ha0
  · have h4 : d ≤ e := by
      by_cases hjl : n + 1 < S.1.length
      · rw [hN, List.getElem?_append_left hjl] at hy
        have hy0 := (h.1.2 y).mp (List.mem_of_getElem? hy)
        rcases hcase y e he with q | q
        · exact h.2.2.2.1 n (n + 1) x y d e (by omega) hx hy hd q
        · exact absurd q.1 hy0
      · rw [hN, List.getElem?_append_right (by omega)] at hy
        have hyN := hN2 y (List.mem_of_getElem? hy)
        rcases hcase y e he with z | z
        · rw [hyN.1] at z; cases z
        · omega
    have := hle c f hc
    omega
  · have htake : S'.1.take (n + 1) = S.1.take n ++ [x] := by
      rw [hN, List.take_append_of_le_length (by omega), List.take_succ, hx]
      rfl
    have hold2 : ∀ y, y ∈ S.1.take n → S'.2.1 y = S.2.1 y := fun y hy => by
      have hne := (h.1.2 y).mp (List.mem_of_mem_take hy)
      rw [h2, if_neg (fun q => hne q.1)]
    rw [htake, pz_sum_app, h3, hc]
    have hlast : pz_sum (fun x => if S'.2.1 x = some e then pz_cnt x (pz_ends s r e) * pz_cnt c (s x) else 0) [x] = if e = d then pz_cnt x (pz_ends s r d) * pz_cnt c (s x) else 0 := by
      simp only [pz_sum, Nat.add_zero, hold x d hd]
      by_cases q : e = d
      · subst q; simp
      · rw [if_neg q, if_neg (fun z => q (Option.some.inj z).symm)]
    have hfirst : pz_sum (fun x => if S'.2.1 x = some e then pz_cnt x (pz_ends s r e) * pz_cnt c (s x) else 0) (S.1.take n) = pz_sum (fun x => if S.2.1 x = some e then pz_cnt x (pz_ends s r e) * pz_cnt c (s x) else 0) (S.1.take n) := pz_sum_congr (fun y hy => by rw [hold2 y hy])
    rw [hlast, hfirst, ← lN_add]
    have htail : (if some (e + 1) = some (d + 1) then lN (pz_cnt x (pz_ends s r d) * pz_cnt c (s x)) else 0) = lN (if e = d then pz_cnt x (pz_ends s r d) * pz_cnt c (s x) else 0) := by
      by_cases q : e = d
      · subst q; simp
      · rw [if_neg q, if_neg (fun z => q (by have := Option.some.inj z; omega))]
        exact pz_lN0.symm
    rw [htail]
    congr 1
    rcases hcase c (e + 1) hc with q | ⟨q1, q2, q3⟩
    · rw [if_neg (fun z => by rw [q] at z; cases z.1)]
      exact h.2.2.2.2.2.2.1 c e q
    · rw [if_pos ⟨q1, q2⟩]
      have h0 : pz_sum (fun x => if S.2.1 x = some e then pz_cnt x (pz_ends s r e) * pz_cnt c (s x) else 0) (S.1.take n) = 0 := pz_sum_zero (fun y hy => by
        by_cases z : S.2.1 y = some e
        · rw [if_pos z]
          obtain ⟨j, hj⟩ := List.getElem?_of_mem hy
          have hjn : j < n := by
            have := (List.getElem?_eq_some_iff.mp hj).1
            have := List.length_take_le n S.1
            omega
          rw [List.getElem?_take_of_lt hjn] at hj
          have : pz_cnt c (s y) = 0 := pz_cnt_zero (fun hm => by
            obtain ⟨f, f1, -⟩ := h.2.2.2.2.1 j y e c hjn hj z hm
            rw [q1] at f1; cases f1)
          rw [this, Nat.mul_zero]
        · rw [if_neg z])
      rw [h0]
      exact pz_lN0.symm
  · have hr : S'.2.1 r = some 0 := hold r 0 h.2.1
    rw [h3, if_neg (fun q => by rw [h.2.1] at q; cases q.1), hr, if_neg (fun q => by cases q), Int64.add_zero]
    exact h.2.2.2.2.2.2.2
end
section
/-! PURE: a state as a number of n digits of base 8; moves on it; how many arrangements there are -/
def pz_dg (c p : Nat) : Nat := c / 8 ^ p % 8
def pz_mk (f : Nat → Nat) : Nat → Nat
  | 0 => 0
  | n + 1 => pz_mk f n + f n * 8 ^ n
theorem pz_dg_lt (c p : Nat) : pz_dg c p < 8 := Nat.mod_lt _ (by decide)
theorem pz_p8 (n : Nat) : 0 < 8 ^ n := Nat.pow_pos (by decide)
theorem pz_mk_lt {f : Nat → Nat} : ∀ {n : Nat}, (∀ p, p < n → f p < 8) → pz_mk f n < 8 ^ n
  | 0, _ => by simp [pz_mk]
  | n + 1, h => by
    have h1 := pz_mk_lt (f := f) (n := n) (fun p hp => h p (by omega))
    have h2 := h n (by omega)
    have h3 : f n * 8 ^ n ≤ 7 * 8 ^ n := Nat.mul_le_mul_right _ (by omega)
    have h4 : 8 ^ (n + 1) = 8 * 8 ^ n := by rw [Nat.pow_succ, Nat.mul_comm]
    simp only [pz_mk]
    omega
theorem pz_mk_congr {f g : Nat → Nat} : ∀ {n : Nat}, (∀ p, p < n → f p = g p) → pz_mk f n = pz_mk g n
  | 0, _ => rfl
  | n + 1, h => by
    simp only [pz_mk]
    rw [pz_mk_congr (fun p hp => h p (by omega)), h n (by omega)]
theorem pz_dg_mk {f : Nat → Nat} : ∀ {n : Nat}, (∀ p, p < n → f p < 8) → ∀ p, p < n → pz_dg (pz_mk f n) p = f p
  | 0, _, p, hp => by omega
  | n + 1, h, p, hp => by
    have h1 := pz_mk_lt (f := f) (n := n) (fun p hp => h p (by omega))
    have h2 := h n (by omega)
    simp only [pz_mk, pz_dg]
    by_cases e : p = n
    · subst e
      rw [Nat.add_mul_div_right _ _ (pz_p8 p), Nat.div_eq_of_lt h1, Nat.zero_add, Nat.mod_eq_of_lt h2]
    · have hpn : p < n := by omega
      have ih := pz_dg_mk (f := f) (n := n) (fun p hp => h p (by omega)) p hpn
      simp only [pz_dg] at ih
      have h5 : 8 ^ n = 8 ^ p * (8 * 8 ^ (n - p - 1)) := by
        rw [← Nat.mul_assoc, ← Nat.pow_succ, ← Nat.pow_add]
        congr 1
        omega
      have h6 : f n * 8 ^ n = 8 ^ p * (8 * (f n * 8 ^ (n - p - 1))) := by
        rw [h5]
        simp only [Nat.mul_left_comm]
      rw [h6, Nat.add_mul_div_left _ _ (pz_p8 p), Nat.add_mul_mod_self_left]
      exact ih
theorem pz_mk_dg : ∀ (n c : Nat), pz_mk (pz_dg c) n = c % 8 ^ n
  | 0, c => by simp [pz_mk, Nat.mod_one]
  | n + 1, c => by
    simp only [pz_mk]
    rw [pz_mk_dg n c, pz_dg, Nat.pow_succ, Nat.mod_mul, Nat.mul_comm (c / 8 ^ n % 8)]
theorem pz_ext {n a b : Nat} (ha : a < 8 ^ n) (hb : b < 8 ^ n) (h : ∀ p, p < n → pz_dg a p = pz_dg b p) : a = b := by
  rw [← Nat.mod_eq_of_lt ha, ← Nat.mod_eq_of_lt hb, ← pz_mk_dg, ← pz_mk_dg]
  exact pz_mk_congr h
/-- f and g undo each other on the places -/
def pz_perm (n : Nat) (f g : Nat → Nat) : Prop := ∀ p, p < n → f p < n ∧ g p < n ∧ g (f p) = p ∧ f (g p) = p
theorem pz_perm.symm {n : Nat} {f g : Nat → Nat} (h : pz_perm n f g) : pz_perm n g f := fun p hp => ⟨(h p hp).2.1, (h p hp).1, (h p hp).2.2.2, (h p hp).2.2.1⟩
/-- the state in which place q has what was at g q -/
def pz_act (n : Nat) (g : Nat → Nat) (c : Nat) : Nat := if c < 8 ^ n then pz_mk (fun q => pz_dg c (g q)) n else c
theorem pz_act_lt {n : Nat} {g : Nat → Nat} {c : Nat} (h : c < 8 ^ n) : pz_act n g c < 8 ^ n := by
  rw [pz_act, if_pos h]
  exact pz_mk_lt (fun p _ => pz_dg_lt _ _)
theorem pz_act_dg {n : Nat} {g : Nat → Nat} {c q : Nat} (h : c < 8 ^ n) (hq : q < n) : pz_dg (pz_act n g c) q = pz_dg c (g q) := by
  rw [pz_act, if_pos h]
  exact pz_dg_mk (f := fun q => pz_dg c (g q)) (fun p _ => pz_dg_lt _ _) q hq
theorem pz_act_inv {n : Nat} {f g : Nat → Nat} (h : pz_perm n f g) (c : Nat) : pz_act n f (pz_act n g c) = c := by
  by_cases hc : c < 8 ^ n
  · refine pz_ext (pz_act_lt (pz_act_lt hc)) hc (fun p hp => ?_)
    rw [pz_act_dg (pz_act_lt hc) hp, pz_act_dg hc (h p hp).1, (h p hp).2.2.1]
  · have h1 : pz_act n g c = c := by rw [pz_act, if_neg hc]
    rw [h1, pz_act, if_neg hc]
theorem pz_act_congr {n : Nat} {g g' : Nat → Nat} (h : ∀ q, q < n → g q = g' q) (c : Nat) : pz_act n g c = pz_act n g' c := by
  unfold pz_act
  by_cases hc : c < 8 ^ n
  · rw [if_pos hc, if_pos hc]
    exact pz_mk_congr (fun p hp => by rw [h p hp])
  · rw [if_neg hc, if_neg hc]
def pz_it (g : Nat → Nat) : Nat → Nat → Nat
  | 0, c => c
  | t + 1, c => g (pz_it g t c)
theorem pz_it_1 (g : Nat → Nat) : ∀ (t c : Nat), pz_it g (t + 1) c = pz_it g t (g c)
  | 0, _ => rfl
  | t + 1, c => by
    show g (pz_it g (t + 1) c) = g (pz_it g t (g c))
    rw [pz_it_1 g t c]
theorem pz_it_add (g : Nat → Nat) (a : Nat) : ∀ (b c : Nat), pz_it g (b + a) c = pz_it g b (pz_it g a c)
  | 0, c => by rw [Nat.zero_add]; rfl
  | b + 1, c => by
    rw [Nat.add_right_comm]
    show g (pz_it g (b + a) c) = g (pz_it g b (pz_it g a c))
    rw [pz_it_add g a b c]
theorem pz_it_inv {g g' : Nat → Nat} (h : ∀ c, g' (g c) = c) : ∀ (t c : Nat), pz_it g' t (pz_it g t c) = c
  | 0, _ => rfl
  | t + 1, c => by
    rw [pz_it_1]
    show pz_it g' t (g' (g (pz_it g t c))) = c
    rw [h]
    exact pz_it_inv h t c
/-- where one comes by doing g once, twice .. t times -/
def pz_tm (g : Nat → Nat) (c : Nat) : Nat → List Nat
  | 0 => []
  | t + 1 => pz_tm g c t ++ [pz_it g (t + 1) c]
/-- where the steps lead, in the order of the moves' numbers and of how often -/
def pz_st (g : Nat → Nat → Nat) (mt : Nat → Nat) : Nat → Nat → List Nat
  | 0, _ => []
  | k + 1, c => pz_st g mt k c ++ pz_tm (g k) c (mt k)
theorem pz_tm_mem {g : Nat → Nat} {c y : Nat} : ∀ {t : Nat}, y ∈ pz_tm g c t ↔ ∃ j, 0 < j ∧ j ≤ t ∧ y = pz_it g j c
  | 0 => ⟨fun h => (List.not_mem_nil h).elim, fun ⟨j, h1, h2, _⟩ => by omega⟩
  | t + 1 => by
    simp only [pz_tm, List.mem_append, List.mem_singleton]
    rw [pz_tm_mem (t := t)]
    constructor
    · rintro (⟨j, h1, h2, h3⟩ | h)
      · exact ⟨j, h1, by omega, h3⟩
      · exact ⟨t + 1, by omega, Nat.le_refl _, h⟩
    · rintro ⟨j, h1, h2, h3⟩
      by_cases e : j = t + 1
      · subst e; exact Or.inr h3
      · exact Or.inl ⟨j, h1, by omega, h3⟩
theorem pz_st_mem {g : Nat → Nat → Nat} {mt : Nat → Nat} {c y : Nat} : ∀ {k : Nat}, y ∈ pz_st g mt k c ↔ ∃ m j, m < k ∧ 0 < j ∧ j ≤ mt m ∧ y = pz_it (g m) j c
  | 0 => ⟨fun h => (List.not_mem_nil h).elim, fun ⟨m, j, h1, _⟩ => by omega⟩
  | k + 1 => by
    simp only [pz_st, List.mem_append]
    rw [pz_st_mem (k := k), pz_tm_mem]
    constructor
    · rintro (⟨m, j, h1, h2, h3, h4⟩ | ⟨j, h1, h2, h3⟩)
      · exact ⟨m, j, by omega, h2, h3, h4⟩
      · exact ⟨k, j, by omega, h1, h2, h3⟩
    · rintro ⟨m, j, h1, h2, h3, h4⟩
      by_cases e : m = k
      · subst e; exact Or.inr ⟨j, h2, h3, h4⟩
      · exact Or.inl ⟨m, j, by omega, h2, h3, h4⟩
theorem pz_tm_rev {g g' : Nat → Nat} (h : ∀ c, g' (g c) = c) (h' : ∀ c, g (g' c) = c) (a b : Nat) : ∀ t, pz_cnt b (pz_tm g a t) = pz_cnt a (pz_tm g' b t)
  | 0 => rfl
  | t + 1 => by
    simp only [pz_tm, pz_cnt_app, pz_cnt_one]
    rw [pz_tm_rev h h' a b t]
    congr 1
    by_cases e : pz_it g (t + 1) a = b
    · rw [if_pos e, if_pos (by rw [← e]; exact pz_it_inv h _ _)]
    · rw [if_neg e, if_neg (fun q => e (by rw [← q]; exact pz_it_inv h' _ _))]
theorem pz_st_rev {g g' : Nat → Nat → Nat} {mt : Nat → Nat} : ∀ {k : Nat}, (∀ m, m < k → ∀ c, g' m (g m c) = c) → (∀ m, m < k → ∀ c, g m (g' m c) = c) → ∀ a b, pz_cnt b (pz_st g mt k a) = pz_cnt a (pz_st g' mt k b)
  | 0, _, _, _, _ => rfl
  | k + 1, h, h', a, b => by
    simp only [pz_st, pz_cnt_app]
    rw [pz_st_rev (k := k) (fun m hm => h m (by omega)) (fun m hm => h' m (by omega)) a b, pz_tm_rev (h k (by omega)) (h' k (by omega))]
/-- arrangements of the labels of a -/
def pz_digits (n c : Nat) : List Nat := (List.range n).map (pz_dg c)
def pz_arr (n a c : Nat) : Prop := c < 8 ^ n ∧ (pz_digits n c).Perm (pz_digits n a)
theorem pz_arr_self {n a : Nat} (h : a < 8 ^ n) : pz_arr n a a := ⟨h, List.Perm.refl _⟩
theorem pz_arr_trans {n a b c : Nat} (h1 : pz_arr n a b) (h2 : pz_arr n b c) : pz_arr n a c := ⟨h2.1, h2.2.trans h1.2⟩
theorem pz_arr_symm {n a b : Nat} (ha : a < 8 ^ n) (h : pz_arr n a b) : pz_arr n b a := ⟨ha, h.2.symm⟩
theorem pz_range_perm {n : Nat} {f g : Nat → Nat} (h : pz_perm n f g) : ((List.range n).map g).Perm (List.range n) := by
  have hnd : ((List.range n).map g).Nodup := by
    rw [List.nodup_iff_pairwise_ne, List.pairwise_map]
    refine List.Pairwise.imp_of_mem ?_ List.nodup_range
    intro a b ha hb hab e
    have h1 := (h a (List.mem_range.mp ha)).2.2.2
    have h2 := (h b (List.mem_range.mp hb)).2.2.2
    rw [e] at h1
    exact hab (h1.symm.trans h2)
  have hsub : (List.range n).map g ⊆ List.range n := by
    intro x hx
    obtain ⟨p, hp, rfl⟩ := List.mem_map.mp hx
    exact List.mem_range.mpr (h p (List.mem_range.mp hp)).2.1
  rw [List.perm_ext_iff_of_nodup hnd List.nodup_range]
  intro x
  refine ⟨fun hx => hsub hx, fun hx => ?_⟩
  have hxn := List.mem_range.mp hx
  exact List.mem_map.mpr ⟨f x, List.mem_range.mpr (h x hxn).1, (h x hxn).2.2.1⟩
theorem pz_arr_act {n a c : Nat} {f g : Nat → Nat} (h : pz_perm n f g) (hc : pz_arr n a c) : pz_arr n a (pz_act n g c) := by
  refine ⟨pz_act_lt hc.1, List.Perm.trans ?_ hc.2⟩
  have h1 : pz_digits n (pz_act n g c) = ((List.range n).map g).map (pz_dg c) := by
    rw [List.map_map]
    refine List.map_congr_left (fun q hq => ?_)
    exact pz_act_dg hc.1 (List.mem_range.mp hq)
  rw [h1]
  exact (pz_range_perm h).map _
def pz_fact : Nat → Nat
  | 0 => 1
  | n + 1 => (n + 1) * pz_fact n
def pz_ins (x : Nat) : List Nat → List (List Nat)
  | [] => [[x]]
  | y :: l => (x :: y :: l) :: (pz_ins x l).map (y :: ·)
def pz_perms : List Nat → List (List Nat)
  | [] => [[]]
  | x :: l => (pz_perms l).flatMap (pz_ins x)
theorem pz_ins_len (x : Nat) : ∀ l : List Nat, (pz_ins x l).length = l.length + 1
  | [] => rfl
  | y :: l => by simp [pz_ins, pz_ins_len x l]
theorem pz_ins_mem (x : Nat) : ∀ a b : List Nat, a ++ x :: b ∈ pz_ins x (a ++ b)
  | [], [] => List.mem_singleton.mpr rfl
  | [], y :: b => List.mem_cons_self
  | y :: a, b => by
    show y :: (a ++ x :: b) ∈ (x :: y :: (a ++ b)) :: (pz_ins x (a ++ b)).map (y :: ·)
    exact List.mem_cons_of_mem _ (List.mem_map.mpr ⟨_, pz_ins_mem x a b, rfl⟩)
theorem pz_ins_all (x : Nat) : ∀ (l m : List Nat), m ∈ pz_ins x l → m.length = l.length + 1
  | [], m, h => by rw [List.mem_singleton.mp h]; rfl
  | y :: l, m, h => by
    rcases List.mem_cons.mp h with e | e
    · rw [e]; rfl
    · obtain ⟨q, hq, rfl⟩ := List.mem_map.mp e
      simp [pz_ins_all x l q hq]
theorem pz_perms_all : ∀ (l m : List Nat), m ∈ pz_perms l → m.length = l.length
  | [], m, h => by rw [List.mem_singleton.mp h]
  | x :: l, m, h => by
    obtain ⟨q, h1, h2⟩ := List.mem_flatMap.mp h
    rw [pz_ins_all x q m h2, pz_perms_all l q h1]
    rfl
theorem pz_flat_len {k : Nat} (f : List Nat → List (List Nat)) : ∀ (L : List (List Nat)), (∀ q, q ∈ L → (f q).length = k) → (L.flatMap f).length = k * L.length
  | [], _ => by simp
  | q :: L, h => by
    rw [List.flatMap_cons, List.length_append, pz_flat_len f L (fun z hz => h z (List.mem_cons_of_mem _ hz)), h q List.mem_cons_self, List.length_cons, Nat.mul_add, Nat.mul_one, Nat.add_comm]
theorem pz_perms_len : ∀ l : List Nat, (pz_perms l).length = pz_fact l.length
  | [] => rfl
  | x :: l => by
    show ((pz_perms l).flatMap (pz_ins x)).length = _
    rw [pz_flat_len (k := l.length + 1) _ _ (fun q hq => by rw [pz_ins_len, pz_perms_all l q hq]), pz_perms_len l]
    rfl
theorem pz_perms_mem : ∀ {l m : List Nat}, m.Perm l → m ∈ pz_perms l
  | [], m, h => by rw [h.eq_nil]; exact List.mem_singleton.mpr rfl
  | x :: l, m, h => by
    have hx : x ∈ m := h.mem_iff.mpr List.mem_cons_self
    obtain ⟨a, b, rfl⟩ := List.append_of_mem hx
    have h1 : (x :: (a ++ b)).Perm (x :: l) := List.perm_middle.symm.trans h
    exact List.mem_flatMap.mpr ⟨a ++ b, pz_perms_mem (List.Perm.cons_inv h1), pz_ins_mem x a b⟩
/-- different arrangements of n labels: n! at most -/
theorem pz_arr_len {n a : Nat} {Q : List Nat} (hn : Q.Nodup) (h : ∀ c, c ∈ Q → pz_arr n a c) : Q.length ≤ pz_fact n := by
  have h1 : (Q.map (pz_digits n)).Nodup := by
    rw [List.nodup_iff_pairwise_ne, List.pairwise_map]
    refine List.Pairwise.imp_of_mem ?_ hn
    intro x y hx hy hxy e
    refine hxy (pz_ext (h x hx).1 (h y hy).1 (fun p hp => ?_))
    have h2 : (pz_digits n x)[p]? = (pz_digits n y)[p]? := by rw [e]
    simpa [pz_digits, hp] using h2
  have h2 : Q.map (pz_digits n) ⊆ pz_perms (pz_digits n a) := by
    intro d hd
    obtain ⟨c, hc, rfl⟩ := List.mem_map.mp hd
    exact pz_perms_mem (h c hc).2
  have h3 := h1.length_le_of_subset h2
  rw [List.length_map, pz_perms_len] at h3
  simpa [pz_digits] using h3
end
section
/-! PURE: a table of M slots: 0, or the place in Q of a state, and 1; one looks from hh x on, slot by slot -/
def pz_ht (M : Nat) (hh : Nat → Nat) (Q : List Nat) (sl : Nat → Nat) : Prop :=
  (∀ k, k < M → sl k ≠ 0 → ∃ x, Q[sl k - 1]? = some x) ∧ (∀ k k', k < M → k' < M → sl k ≠ 0 → sl k = sl k' → k = k') ∧
  (∀ i x, Q[i]? = some x → ∃ j, j < M ∧ sl ((hh x + j) % M) = i + 1 ∧ ∀ j', j' < j → sl ((hh x + j') % M) ≠ 0 ∧ sl ((hh x + j') % M) ≤ i)
/-- where one stops that looks for x -/
def pz_stop (M : Nat) (hh : Nat → Nat) (Q : List Nat) (sl : Nat → Nat) (x j : Nat) : Prop := sl ((hh x + j) % M) = 0 ∨ Q[sl ((hh x + j) % M) - 1]? = some x
theorem pz_next (M a j : Nat) : (a + (j + 1)) % M = ((a + j) % M + 1) % M := by
  rw [← Nat.add_assoc, Nat.add_mod (a + j) 1 M, Nat.add_mod ((a + j) % M) 1 M, Nat.mod_mod]
theorem pz_probe_inj {M a j j' : Nat} (hj : j < M) (hj' : j' < M) (h : (a + j) % M = (a + j') % M) : j = j' := by
  have key : ∀ x y : Nat, x < M → y < M → x ≤ y → (a + x) % M = (a + y) % M → x = y := by
    intro x y hx hy hxy e
    have h1 : (a + y) = (a + x) + (y - x) := by omega
    rw [h1] at e
    have h2 : ((a + x) + (y - x)) % M = (a + x) % M := e.symm
    have h3 : M ∣ (y - x) := by
      have h4 := Nat.sub_mod_eq_zero_of_mod_eq h2
      have h5 : (a + x) + (y - x) - (a + x) = y - x := by omega
      rw [h5] at h4
      exact Nat.dvd_of_mod_eq_zero h4
    rcases h3 with ⟨q, hq⟩
    cases q with
    | zero => omega
    | succ q =>
      have : M ≤ M * (q + 1) := Nat.le_mul_of_pos_right M (by omega)
      omega
  rcases Nat.le_total j j' with q | q
  · exact key j j' hj hj' q h
  · exact (key j' j hj' hj q h.symm).symm
theorem pz_getinj {Q : List Nat} (hn : Q.Nodup) {i j x : Nat} (hi : Q[i]? = some x) (hj : Q[j]? = some x) : i = j :=
  (List.getElem?_inj (List.getElem?_eq_some_iff.mp hi).1 hn).mp (hi.trans hj.symm)
theorem pz_ht_free {M : Nat} {hh : Nat → Nat} {Q : List Nat} {sl : Nat → Nat} (h : pz_ht M hh Q sl) (hM : Q.length < M) : ∃ k, k < M ∧ sl k = 0 := by
  by_cases e : ∃ k, k < M ∧ sl k = 0
  · exact e
  · exfalso
    have hne : ∀ k, k < M → sl k ≠ 0 := fun k hk h0 => e ⟨k, hk, h0⟩
    have h1 : ((List.range M).map (fun k => sl k - 1)).Nodup := by
      rw [List.nodup_iff_pairwise_ne, List.pairwise_map]
      refine List.Pairwise.imp_of_mem ?_ List.nodup_range
      intro a b ha hb hab z
      have ha' := List.mem_range.mp ha
      have hb' := List.mem_range.mp hb
      have := hne a ha'
      have := hne b hb'
      exact hab (h.2.1 a b ha' hb' (hne a ha') (by omega))
    have h2 : (List.range M).map (fun k => sl k - 1) ⊆ List.range Q.length := by
      intro y hy
      obtain ⟨k, hk, rfl⟩ := List.mem_map.mp hy
      obtain ⟨x, hx⟩ := h.1 k (List.mem_range.mp hk) (hne k (List.mem_range.mp hk))
      exact List.mem_range.mpr (List.getElem?_eq_some_iff.mp hx).1
    have h3 := h1.length_le_of_subset h2
    simp only [List.length_map, List.length_range] at h3
    omega
theorem pz_ht_stop {M : Nat} {hh : Nat → Nat} {Q : List Nat} {sl : Nat → Nat} (h : pz_ht M hh Q sl) (hM : Q.length < M) {x : Nat} (hx : hh x < M) : ∃ j, j < M ∧ pz_stop M hh Q sl x j := by
  obtain ⟨k, hk, h0⟩ := pz_ht_free h hM
  by_cases e : hh x ≤ k
  · refine ⟨k - hh x, by omega, Or.inl ?_⟩
    rw [show hh x + (k - hh x) = k by omega, Nat.mod_eq_of_lt hk]
    exact h0
  · refine ⟨k + M - hh x, by omega, Or.inl ?_⟩
    rw [show hh x + (k + M - hh x) = k + M by omega, Nat.add_mod_right, Nat.mod_eq_of_lt hk]
    exact h0
theorem pz_ht_in {M : Nat} {hh : Nat → Nat} {Q : List Nat} {sl : Nat → Nat} (h : pz_ht M hh Q sl) (hn : Q.Nodup) (h0 : 0 < M) {x i j : Nat} (hi : Q[i]? = some x) (hj : pz_stop M hh Q sl x j) (hl : ∀ j', j' < j → ¬ pz_stop M hh Q sl x j') : sl ((hh x + j) % M) = i + 1 := by
  obtain ⟨j0, hj0, h1, h2⟩ := h.2.2 i x hi
  have hs0 : pz_stop M hh Q sl x j0 := Or.inr (by rw [h1]; exact hi)
  rcases Nat.lt_trichotomy j j0 with q | q | q
  · exfalso
    have hne := (h2 j q).1
    rcases hj with hj | hj
    · exact hne hj
    · have h3 := pz_getinj hn hj hi
      have h4 : sl ((hh x + j) % M) = sl ((hh x + j0) % M) := by rw [h1]; omega
      have h5 := h.2.1 _ _ (Nat.mod_lt _ h0) (Nat.mod_lt _ h0) hne h4
      have := pz_probe_inj (by omega) hj0 h5
      omega
  · rw [q]; exact h1
  · exact absurd hs0 (hl j0 q)
theorem pz_ht_out {M : Nat} {hh : Nat → Nat} {Q : List Nat} {sl : Nat → Nat} {x j : Nat} (hx : x ∉ Q) (hj : pz_stop M hh Q sl x j) : sl ((hh x + j) % M) = 0 := by
  rcases hj with hj | hj
  · exact hj
  · exact absurd (List.mem_of_getElem? hj) hx
theorem pz_ht_put {M : Nat} {hh : Nat → Nat} {Q : List Nat} {sl : Nat → Nat} (h : pz_ht M hh Q sl) (h0 : 0 < M) {x j : Nat} (hjM : j < M) (hj : sl ((hh x + j) % M) = 0) (hl : ∀ j', j' < j → ¬ pz_stop M hh Q sl x j') : pz_ht M hh (Q ++ [x]) (pz_up sl ((hh x + j) % M) (Q.length + 1)) := by
  generalize hk : (hh x + j) % M = k at hj
  have hkM : k < M := by rw [← hk]; exact Nat.mod_lt _ h0
  have hle : ∀ k', k' < M → sl k' ≠ 0 → sl k' ≤ Q.length := fun k' h1 h2 => by
    obtain ⟨y, hy⟩ := h.1 k' h1 h2
    have := (List.getElem?_eq_some_iff.mp hy).1
    omega
  refine ⟨fun k' hk' hne => ?_, fun a b ha hb hne e => ?_, fun i y hy => ?_⟩
  · by_cases q : k' = k
    · subst q
      refine ⟨x, ?_⟩
      rw [pz_up_s]
      simp
    · rw [pz_up_n _ _ q] at hne ⊢
      obtain ⟨y, hy⟩ := h.1 k' hk' hne
      exact ⟨y, by rw [List.getElem?_append_left (List.getElem?_eq_some_iff.mp hy).1]; exact hy⟩
  · by_cases q : a = k
    · by_cases z : b = k
      · rw [q, z]
      · rw [q, pz_up_s, pz_up_n _ _ z] at e
        have := hle b hb (by omega)
        omega
    · rw [pz_up_n _ _ q] at e hne
      by_cases z : b = k
      · rw [z, pz_up_s] at e
        have := hle a ha hne
        omega
      · rw [pz_up_n _ _ z] at e
        exact h.2.1 a b ha hb hne e
  · by_cases hi : i < Q.length
    · rw [List.getElem?_append_left hi] at hy
      obtain ⟨j0, a1, a2, a3⟩ := h.2.2 i y hy
      refine ⟨j0, a1, ?_, fun j' hj' => ?_⟩
      · rw [pz_up_n]
        · exact a2
        · intro e; rw [e, hj] at a2; omega
      · have := a3 j' hj'
        rw [pz_up_n]
        · exact this
        · intro e; rw [e, hj] at this; exact this.1 rfl
    · have hlen := (List.getElem?_eq_some_iff.mp hy).1
      rw [List.length_append, List.length_singleton] at hlen
      have hiq : i = Q.length := by omega
      subst hiq
      have hyx : y = x := by
        rw [List.getElem?_append_right (Nat.le_refl _), Nat.sub_self] at hy
        exact (Option.some.inj hy).symm
      subst hyx
      refine ⟨j, hjM, by rw [hk, pz_up_s], fun j' hj' => ?_⟩
      have hs := hl j' hj'
      have hne : sl ((hh y + j') % M) ≠ 0 := fun e => hs (Or.inl e)
      have hnk : (hh y + j') % M ≠ k := fun e => hne (by rw [e]; exact hj)
      rw [pz_up_n _ _ hnk]
      exact ⟨hne, hle _ (Nat.mod_lt _ h0) hne⟩
theorem pz_ht_drop {M : Nat} {hh : Nat → Nat} {Q : List Nat} {sl : Nat → Nat} {x k : Nat} (h : pz_ht M hh (Q ++ [x]) sl) (hkM : k < M) (hk : sl k = Q.length + 1) (h0 : 0 < M) : pz_ht M hh Q (pz_up sl k 0) := by
  refine ⟨fun k' hk' hne => ?_, fun a b ha hb hne e => ?_, fun i y hy => ?_⟩
  · by_cases q : k' = k
    · subst q; rw [pz_up_s] at hne; exact absurd rfl hne
    · rw [pz_up_n _ _ q] at hne ⊢
      obtain ⟨y, hy⟩ := h.1 k' hk' hne
      refine ⟨y, ?_⟩
      by_cases z : sl k' - 1 < Q.length
      · rw [List.getElem?_append_left z] at hy; exact hy
      · have hlen := (List.getElem?_eq_some_iff.mp hy).1
        rw [List.length_append, List.length_singleton] at hlen
        exact absurd (h.2.1 k' k hk' hkM hne (by omega)) q
  · by_cases q : a = k
    · rw [q, pz_up_s] at hne; exact absurd rfl hne
    · rw [pz_up_n _ _ q] at hne e
      by_cases z : b = k
      · rw [z, pz_up_s] at e; exact absurd e hne
      · rw [pz_up_n _ _ z] at e
        exact h.2.1 a b ha hb hne e
  · have hi := (List.getElem?_eq_some_iff.mp hy).1
    obtain ⟨j0, a1, a2, a3⟩ := h.2.2 i y (by rw [List.getElem?_append_left hi]; exact hy)
    refine ⟨j0, a1, ?_, fun j' hj' => ?_⟩
    · rw [pz_up_n]
      · exact a2
      · intro e; rw [e, hk] at a2; omega
    · have := a3 j' hj'
      rw [pz_up_n]
      · exact this
      · intro e; rw [e, hk] at this; omega
theorem pz_ht_nil {M : Nat} {hh : Nat → Nat} {sl : Nat → Nat} (h : ∀ k, k < M → sl k = 0) : pz_ht M hh [] sl :=
  ⟨fun k hk hne => absurd (h k hk) hne, fun a b ha _ hne _ => absurd (h a ha) hne, fun i x hx => by simp at hx⟩
theorem pz_ht_nil0 {M : Nat} {hh : Nat → Nat} {sl : Nat → Nat} (h : pz_ht M hh [] sl) {k : Nat} (hk : k < M) : sl k = 0 := by
  by_cases e : sl k = 0
  · exact e
  · obtain ⟨x, hx⟩ := h.1 k hk e
    simp at hx
end
section
/-! PURE: balls around a state, layer by layer; two balls that meet; rows that are shortest -/
/-- the first n lie nearer than d, all others d away -/
def pz_lay (n d : Nat) (S : pz_S) : Prop := n < S.1.length ∧ (∀ i x e, i < n → S.1[i]? = some x → S.2.1 x = some e → e < d) ∧ (∀ i x e, n ≤ i → S.1[i]? = some x → S.2.1 x = some e → e = d)
/-- a ball: N have been gone out from: the first n, or (complete) all -/
def pz_ball (s : Nat → List Nat) (a n d : Nat) (cm : Bool) (S : pz_S) : Prop := pz_inv s a (if cm = true then S.1.length else n) S ∧ pz_lay n d S
theorem pz_sn {x : Option Nat} {k : Nat} (h : x = some k) : x ≠ none := by rw [h]; exact fun e => by cases e
theorem pz_mem_far {S : pz_S} (h : pz_ok S) {x : Nat} (hx : x ∈ S.1) : ∃ e, S.2.1 x = some e := by
  cases he : S.2.1 x with
  | none => exact absurd he ((h.2 x).mp hx)
  | some e => exact ⟨e, rfl⟩
theorem pz_far_mem {S : pz_S} (h : pz_ok S) {x e : Nat} (hx : S.2.1 x = some e) : x ∈ S.1 := (h.2 x).mpr (by rw [hx]; exact fun q => by cases q)
theorem pz_ball_ok {s : Nat → List Nat} {a n d : Nat} {cm : Bool} {S : pz_S} (h : pz_ball s a n d cm S) : pz_ok S := h.1.1
theorem pz_ball_exact {s : Nat → List Nat} {a n d : Nat} {cm : Bool} {S : pz_S} (h : pz_ball s a n d cm S) {x k : Nat} (hx : S.2.1 x = some k) : pz_dist s a x k := pz_exact h.1 hx
theorem pz_ball_le {s : Nat → List Nat} {a n d : Nat} {cm : Bool} {S : pz_S} (h : pz_ball s a n d cm S) {x k : Nat} (hx : S.2.1 x = some k) : k ≤ d := by
  obtain ⟨i, hi⟩ := List.getElem?_of_mem (pz_far_mem h.1.1 hx)
  by_cases q : i < n
  · exact Nat.le_of_lt (h.2.2.1 i x k q hi hx)
  · exact Nat.le_of_eq (h.2.2.2 i x k (by omega) hi hx)
theorem pz_ball_last {s : Nat → List Nat} {a n d : Nat} {cm : Bool} {S : pz_S} (h : pz_ball s a n d cm S) {x : Nat} : S.2.1 x = some d ↔ ∃ i, n ≤ i ∧ S.1[i]? = some x := by
  constructor
  · intro hx
    obtain ⟨i, hi⟩ := List.getElem?_of_mem (pz_far_mem h.1.1 hx)
    by_cases q : i < n
    · exact absurd (h.2.2.1 i x d q hi hx) (by omega)
    · exact ⟨i, by omega, hi⟩
  · rintro ⟨i, hi, hx⟩
    obtain ⟨e, he⟩ := pz_mem_far h.1.1 (List.mem_of_getElem? hx)
    rw [he, h.2.2.2 i x e hi hx he]
theorem pz_ball_near {s : Nat → List Nat} {a n d : Nat} {cm : Bool} {S : pz_S} (h : pz_ball s a n d cm S) {x k : Nat} (hk : k ≤ d ∨ cm = true) (hx : pz_dist s a x k) : S.2.1 x = some k := by
  rcases pz_claim h.1 k x hx.1 with ⟨e, he, hf⟩ | ⟨y, e, h1, h2, h3⟩
  · rw [hf, pz_dist_eq (pz_exact h.1 hf) hx]
  · exfalso
    cases cm with
    | true =>
      rw [if_pos rfl] at h1
      simp at h1
    | false =>
      rw [if_neg (by decide)] at h1
      have := h.2.2.2 n y e (Nat.le_refl n) h1 h2
      rcases hk with hk | hk
      · omega
      · cases hk
theorem pz_ball_ways {s : Nat → List Nat} {a n d : Nat} {cm : Bool} {S : pz_S} (h : pz_ball s a n d cm S) {x k : Nat} (hx : S.2.1 x = some k) : S.2.2 x = lN (pz_cnt x (pz_ends s a k)) := by
  refine pz_full h.1 hx (fun i y e hi hy he => ?_)
  have hk := pz_ball_le h hx
  have hl := (List.getElem?_eq_some_iff.mp hy).1
  cases cm with
  | true => rw [if_pos rfl] at hi; omega
  | false =>
    rw [if_neg (by decide)] at hi
    have := h.2.2.2 i y e hi hy he
    omega
theorem pz_ball_0 (s : Nat → List Nat) (a : Nat) : pz_ball s a 0 0 false (pz_S0 a) := by
  refine ⟨by rw [if_neg (by decide)]; exact pz_inv_0 s a, by simp [pz_S0], fun i x e hi => by omega, fun i x e _ hx he => ?_⟩
  have h1 : x = a := List.mem_singleton.mp (List.mem_of_getElem? (l := [a]) hx)
  rw [h1] at he
  simp only [pz_S0, pz_up_s, Option.some.injEq] at he
  exact he.symm
/-- while a layer is added: j have been gone out from -/
def pz_mid (s : Nat → List Nat) (a n d f j : Nat) (S : pz_S) : Prop := pz_inv s a j S ∧ n ≤ j ∧ j ≤ f ∧ n < f ∧ f ≤ S.1.length ∧ (∀ i x e, i < n → S.1[i]? = some x → S.2.1 x = some e → e < d) ∧ (∀ i x e, n ≤ i → i < f → S.1[i]? = some x → S.2.1 x = some e → e = d) ∧ (∀ i x e, f ≤ i → S.1[i]? = some x → S.2.1 x = some e → e = d + 1)
theorem pz_mid_0 {s : Nat → List Nat} {a n d : Nat} {S : pz_S} (h : pz_ball s a n d false S) : pz_mid s a n d S.1.length n S := by
  refine ⟨by have := h.1; rwa [if_neg (by decide)] at this, Nat.le_refl n, Nat.le_of_lt h.2.1, h.2.1, Nat.le_refl _, h.2.2.1, fun i x e h1 _ => h.2.2.2 i x e h1, fun i x e hi hx => ?_⟩
  have := (List.getElem?_eq_some_iff.mp hx).1
  omega
theorem pz_mid_far {s : Nat → List Nat} {a n d f j : Nat} {S : pz_S} (h : pz_mid s a n d f j S) (hj : j < f) {x : Nat} (hx : S.1[j]? = some x) : S.2.1 x = some d := by
  obtain ⟨e, he⟩ := pz_mem_far h.1.1 (List.mem_of_getElem? hx)
  rw [he, h.2.2.2.2.2.2.1 j x e h.2.1 hj hx he]
theorem pz_mid_step {s : Nat → List Nat} {a n d f j : Nat} {S : pz_S} (h : pz_mid s a n d f j S) (hj : j < f) {x : Nat} (hx : S.1[j]? = some x) : pz_mid s a n d f (j + 1) ((s x).foldl (pz_vis (d + 1) (S.2.2 x)) S) := by
  have hd := pz_mid_far h hj hx
  have hi := pz_inv_step h.1 hx hd
  obtain ⟨N, hN, hN2⟩ := pz_fold_1 (d := d + 1) (w := S.2.2 x) (s x) S
  have h2 := fun c => pz_fold_2 (d := d + 1) (w := S.2.2 x) (s x) S c
  generalize (s x).foldl (pz_vis (d + 1) (S.2.2 x)) S = S' at hi hN h2 ⊢
  obtain ⟨h1, h3, h4, h5, h6, h7, h8, h9⟩ := h
  have hold : ∀ i y e, i < S.1.length → S'.1[i]? = some y → S'.2.1 y = some e → S.1[i]? = some y ∧ S.2.1 y = some e := by
    intro i y e hi hy he
    rw [hN, List.getElem?_append_left hi] at hy
    refine ⟨hy, ?_⟩
    rw [h2] at he
    by_cases q : S.2.1 y = none ∧ y ∈ s x
    · exact absurd q.1 ((h1.1.2 y).mp (List.mem_of_getElem? hy))
    · rw [if_neg q] at he; exact he
  refine ⟨hi, by omega, by omega, h5, by rw [hN, List.length_append]; omega, fun i y e hin hy he => ?_, fun i y e hni hif hy he => ?_, fun i y e hif hy he => ?_⟩
  · obtain ⟨q1, q2⟩ := hold i y e (by omega) hy he
    exact h7 i y e hin q1 q2
  · obtain ⟨q1, q2⟩ := hold i y e (by omega) hy he
    exact h8 i y e hni hif q1 q2
  · by_cases q : i < S.1.length
    · obtain ⟨q1, q2⟩ := hold i y e q hy he
      exact h9 i y e hif q1 q2
    · rw [hN, List.getElem?_append_right (by omega)] at hy
      have hy2 := hN2 y (List.mem_of_getElem? hy)
      rw [h2, if_pos hy2] at he
      exact (Option.some.inj he).symm
theorem pz_mid_end {s : Nat → List Nat} {a n d f : Nat} {S : pz_S} (h : pz_mid s a n d f f S) (hf : f < S.1.length) : pz_ball s a f (d + 1) false S := by
  obtain ⟨h1, h3, h4, h5, h6, h7, h8, h9⟩ := h
  refine ⟨by rw [if_neg (by decide)]; exact h1, hf, fun i x e hi hx he => ?_, h9⟩
  by_cases q : i < n
  · have := h7 i x e q hx he; omega
  · have := h8 i x e (by omega) hi hx he; omega
theorem pz_mid_full {s : Nat → List Nat} {a n d f : Nat} {S : pz_S} (h : pz_mid s a n d f f S) (hf : S.1.length = f) : pz_ball s a n d true S := by
  obtain ⟨h1, h3, h4, h5, h6, h7, h8, h9⟩ := h
  refine ⟨by rw [if_pos rfl, hf]; exact h1, by omega, h7, fun i x e hi hx he => ?_⟩
  have := (List.getElem?_eq_some_iff.mp hx).1
  exact h8 i x e hi (by omega) hx he
/-- no state in common: every row is longer than both depths together -/
theorem pz_apart {s r : Nat → List Nat} (hr : ∀ a b, pz_cnt b (s a) = pz_cnt a (r b)) {a g n d n' d' : Nat} {cm cm' : Bool} {S T : pz_S} (hS : pz_ball s a n d cm S) (hT : pz_ball r g n' d' cm' T) (hno : ∀ x, ¬ (S.2.1 x ≠ none ∧ T.2.1 x ≠ none)) {k : Nat} (hk : pz_dist s a g k) : d + d' < k := by
  by_cases q : d + d' < k
  · exact q
  · exfalso
    by_cases z : k ≤ d
    · have h1 := pz_ball_near hS (Or.inl z) hk
      have h2 := pz_ball_near hT (Or.inl (Nat.zero_le _)) (pz_dist_self r g)
      exact hno g ⟨pz_sn h1, pz_sn h2⟩
    · have hk' : k = d + (k - d) := by omega
      rw [hk'] at hk
      obtain ⟨x, h1, h2⟩ := pz_ends_mid hk.1
      obtain ⟨h3, h4⟩ := pz_dist_mid hk h1 h2
      have h5 := pz_ball_near hS (Or.inl (Nat.le_refl d)) h3
      have h6 := pz_ball_near hT (Or.inl (by omega)) (pz_dist_rev hr h4)
      exact hno x ⟨pz_sn h5, pz_sn h6⟩
theorem pz_no_row {s r : Nat → List Nat} (hr : ∀ a b, pz_cnt b (s a) = pz_cnt a (r b)) {a g n d n' d' : Nat} {cm cm' : Bool} {S T : pz_S} (hS : pz_ball s a n d cm S) (hT : pz_ball r g n' d' cm' T) (hno : ∀ x, ¬ (S.2.1 x ≠ none ∧ T.2.1 x ≠ none)) (hc : cm = true ∨ cm' = true) (k : Nat) : ¬ pz_dist s a g k := by
  intro hk
  rcases hc with hc | hc
  · have h1 := pz_ball_near hS (Or.inr hc) hk
    have h2 := pz_ball_near hT (Or.inl (Nat.zero_le _)) (pz_dist_self r g)
    exact hno g ⟨pz_sn h1, pz_sn h2⟩
  · have h1 := pz_ball_near hT (Or.inr hc) (pz_dist_rev hr hk)
    have h2 := pz_ball_near hS (Or.inl (Nat.zero_le _)) (pz_dist_self s a)
    exact hno a ⟨pz_sn h2, pz_sn h1⟩
/-- a common state of the last layers, where every row is longer than one step less: so long is the shortest -/
theorem pz_meet {s r : Nat → List Nat} (hr : ∀ a b, pz_cnt b (s a) = pz_cnt a (r b)) {a g n d n' d' : Nat} {cm cm' : Bool} {S T : pz_S} (hS : pz_ball s a n d cm S) (hT : pz_ball r g n' d' cm' T) {x : Nat} (h1 : S.2.1 x ≠ none) (h2 : T.2.1 x ≠ none) (hlong : ∀ k, pz_dist s a g k → d + d' ≤ k) : pz_dist s a g (d + d') := by
  cases he : S.2.1 x with
  | none => exact absurd he h1
  | some e =>
    cases hf : T.2.1 x with
    | none => exact absurd hf h2
    | some f =>
      have h3 := pz_ball_exact hS he
      have h4 := pz_dist_rev (fun u v => (hr v u).symm) (pz_ball_exact hT hf)
      have h5 := pz_ball_le hS he
      have h6 := pz_ball_le hT hf
      have h7 : g ∈ pz_ends s a (e + f) := by
        rw [pz_ends_add]
        exact List.mem_flatMap.mpr ⟨x, h3.1, h4.1⟩
      obtain ⟨k, hk, hd⟩ := pz_dist_of h7
      have := hlong k hd
      have hkk : k = d + d' := by omega
      rw [← hkk]
      exact hd
/-- the number of shortest rows, by the last layer of the ball around the goal -/
theorem pz_meet_ways {s r : Nat → List Nat} (hr : ∀ a b, pz_cnt b (s a) = pz_cnt a (r b)) {a g n d n' d' i : Nat} {cm cm' : Bool} {S T : pz_S} (hS : pz_ball s a n d cm S) (hT : pz_ball r g n' d' cm' T) (hi : i ≤ d) (hk : pz_dist s a g (i + d')) : pz_cnt g (pz_ends s a (i + d')) = pz_sum (fun x => if S.2.1 x = some i then pz_cnt x (pz_ends s a i) * pz_cnt x (pz_ends r g d') else 0) (T.1.drop n') := by
  have hnd : (T.1.drop n').Nodup := (List.drop_sublist n' T.1).nodup hT.1.1.1
  rw [pz_cnt_mid hr hnd (fun x h1 h2 => ?_)]
  · refine pz_sum_congr (fun x hx => ?_)
    by_cases q : S.2.1 x = some i
    · rw [if_pos q]
    · rw [if_neg q]
      obtain ⟨j, hj⟩ := List.getElem?_of_mem hx
      rw [List.getElem?_drop] at hj
      have hf := (pz_ball_last hT).mpr ⟨n' + j, by omega, hj⟩
      have hxg := pz_dist_rev (fun u v => (hr v u).symm) (pz_ball_exact hT hf)
      rw [Nat.mul_eq_zero]
      left
      refine pz_cnt_zero (fun hm => q ?_)
      exact pz_ball_near hS (Or.inl hi) (pz_dist_mid hk hm hxg.1).1
  · have h3 := (pz_dist_mid hk h1 h2).2
    have hf := pz_ball_near hT (Or.inl (Nat.le_refl d')) (pz_dist_rev hr h3)
    obtain ⟨j, hj, hx⟩ := (pz_ball_last hT).mp hf
    have h4 : (T.1.drop n')[j - n']? = some x := by rw [List.getElem?_drop, show n' + (j - n') = j by omega]; exact hx
    exact List.mem_of_getElem? h4
end
section
/-! PURE: how often a move must be done until all places have what they had: at most 15 times for eight places -/
theorem pz_it_lt {n : Nat} {f : Nat → Nat} (h : ∀ p, p < n → f p < n) : ∀ (t : Nat) {p : Nat}, p < n → pz_it f t p < n
  | 0, _, hp => hp
  | t + 1, _, hp => h _ (pz_it_lt h t hp)
theorem pz_it_back {n : Nat} {f g : Nat → Nat} (h : pz_perm n f g) : ∀ (t : Nat) {p : Nat}, p < n → pz_it g t (pz_it f t p) = p
  | 0, _, _ => rfl
  | t + 1, p, hp => by
    have hl := pz_it_lt (fun x hx => (h x hx).1) t hp
    rw [pz_it_1]
    show pz_it g t (g (f (pz_it f t p))) = p
    rw [(h _ hl).2.2.1]
    exact pz_it_back h t hp
theorem pz_it_can {n : Nat} {f g : Nat → Nat} (h : pz_perm n f g) {i d p : Nat} (hp : p < n) (e : pz_it f (d + i) p = pz_it f i p) : pz_it f d p = p := by
  have hc : pz_it f (d + i) p = pz_it f i (pz_it f d p) := by rw [Nat.add_comm]; exact pz_it_add f d i p
  rw [hc] at e
  have hd := pz_it_lt (fun x hx => (h x hx).1) d hp
  have h1 := pz_it_back h i hd
  rw [e, pz_it_back h i hp] at h1
  exact h1.symm
/-- l is the least number of times, at least 1, after which f has brought p back -/
def pz_per (f : Nat → Nat) (p l : Nat) : Prop := 0 < l ∧ pz_it f l p = p ∧ ∀ j, 0 < j → j < l → pz_it f j p ≠ p
theorem pz_per_ex {n : Nat} {f g : Nat → Nat} (h : pz_perm n f g) {p : Nat} (hp : p < n) : ∃ l, pz_per f p l := by
  have h1 : ∃ d, 0 < d ∧ pz_it f d p = p := by
    by_cases e : ((List.range (n + 1)).map (fun t => pz_it f t p)).Nodup
    · have hs : (List.range (n + 1)).map (fun t => pz_it f t p) ⊆ List.range n := by
        intro x hx
        obtain ⟨t, -, rfl⟩ := List.mem_map.mp hx
        exact List.mem_range.mpr (pz_it_lt (fun x hx => (h x hx).1) t hp)
      have := e.length_le_of_subset hs
      simp only [List.length_map, List.length_range] at this
      omega
    · rw [List.nodup_iff_pairwise_ne, List.pairwise_map, List.pairwise_iff_getElem] at e
      simp only [List.length_range, List.getElem_range] at e
      have e2 : ∃ i j, i < j ∧ pz_it f i p = pz_it f j p := by
        by_cases z : ∃ i j, i < j ∧ pz_it f i p = pz_it f j p
        · exact z
        · exact absurd (fun i j _ _ hij q => z ⟨i, j, hij, q⟩) e
      obtain ⟨i, j, hij, q⟩ := e2
      refine ⟨j - i, by omega, pz_it_can h (i := i) hp ?_⟩
      rw [show j - i + i = j by omega]
      exact q.symm
  obtain ⟨l, ⟨h2, h3⟩, h4⟩ := pk_least (fun d => 0 < d ∧ pz_it f d p = p) h1
  exact ⟨l, h2, h3, fun j hj hjl q => h4 j hjl ⟨hj, q⟩⟩
theorem pz_per_eq {f : Nat → Nat} {p l l' : Nat} (h1 : pz_per f p l) (h2 : pz_per f p l') : l = l' := by
  rcases Nat.lt_trichotomy l l' with h | h | h
  · exact absurd h1.2.1 (h2.2.2 l h1.1 h)
  · exact h
  · exact absurd h2.2.1 (h1.2.2 l' h2.1 h)
theorem pz_per_on {n : Nat} {f g : Nat → Nat} (h : pz_perm n f g) {p l i : Nat} (hp : p < n) (hl : pz_per f p l) : pz_per f (pz_it f i p) l := by
  have hcomm : ∀ a b, pz_it f a (pz_it f b p) = pz_it f b (pz_it f a p) := fun a b => by rw [← pz_it_add, ← pz_it_add, Nat.add_comm]
  refine ⟨hl.1, by rw [hcomm, hl.2.1], fun j hj hjl q => hl.2.2 j hj hjl ?_⟩
  exact pz_it_can h (i := i) hp (by rw [pz_it_add]; exact q)
def pz_orb (f : Nat → Nat) (p l : Nat) : List Nat := (List.range l).map (fun t => pz_it f t p)
theorem pz_orb_nd {n : Nat} {f g : Nat → Nat} (h : pz_perm n f g) {p l : Nat} (hp : p < n) (hl : pz_per f p l) : (pz_orb f p l).Nodup := by
  rw [pz_orb, List.nodup_iff_pairwise_ne, List.pairwise_map, List.pairwise_iff_getElem]
  intro i j hi hj hij e
  simp only [List.getElem_range] at e
  rw [List.length_range] at hi hj
  refine hl.2.2 (j - i) (by omega) (by omega) (pz_it_can h (i := i) hp ?_)
  rw [show j - i + i = j by omega]
  exact e.symm
theorem pz_orb_per {n : Nat} {f g : Nat → Nat} (h : pz_perm n f g) {p l x : Nat} (hp : p < n) (hl : pz_per f p l) (hx : x ∈ pz_orb f p l) : pz_per f x l ∧ x < n := by
  obtain ⟨i, -, rfl⟩ := List.mem_map.mp hx
  exact ⟨pz_per_on h hp hl, pz_it_lt (fun x hx => (h x hx).1) i hp⟩
theorem pz_orb_len (f : Nat → Nat) (p l : Nat) : (pz_orb f p l).length = l := by simp [pz_orb]
theorem pz_per_1 {n : Nat} {f g : Nat → Nat} (h : pz_perm n f g) {p l : Nat} (hp : p < n) (hl : pz_per f p l) : l ≤ n := by
  have := (pz_orb_nd h hp hl).length_le_of_subset (l₂ := List.range n) (fun x hx => List.mem_range.mpr (pz_orb_per h hp hl hx).2)
  rw [pz_orb_len, List.length_range] at this
  exact this
theorem pz_per_2 {n : Nat} {f g : Nat → Nat} (h : pz_perm n f g) {p l p' l' : Nat} (hp : p < n) (hl : pz_per f p l) (hp' : p' < n) (hl' : pz_per f p' l') (hne : l ≠ l') : l + l' ≤ n := by
  have hnd : (pz_orb f p l ++ pz_orb f p' l').Nodup := List.nodup_append.mpr ⟨pz_orb_nd h hp hl, pz_orb_nd h hp' hl', fun a ha b hb e => hne (pz_per_eq (pz_orb_per h hp hl ha).1 (e ▸ (pz_orb_per h hp' hl' hb).1))⟩
  have := hnd.length_le_of_subset (l₂ := List.range n) (fun x hx => by
    rcases List.mem_append.mp hx with q | q
    · exact List.mem_range.mpr (pz_orb_per h hp hl q).2
    · exact List.mem_range.mpr (pz_orb_per h hp' hl' q).2)
  rw [List.length_append, pz_orb_len, pz_orb_len, List.length_range] at this
  exact this
theorem pz_per_3 {n : Nat} {f g : Nat → Nat} (h : pz_perm n f g) {p l p' l' p'' l'' : Nat} (hp : p < n) (hl : pz_per f p l) (hp' : p' < n) (hl' : pz_per f p' l') (hp'' : p'' < n) (hl'' : pz_per f p'' l'') (h1 : l ≠ l') (h2 : l ≠ l'') (h3 : l' ≠ l'') : l + l' + l'' ≤ n := by
  have hnd : (pz_orb f p l ++ pz_orb f p' l' ++ pz_orb f p'' l'').Nodup := by
    refine List.nodup_append.mpr ⟨List.nodup_append.mpr ⟨pz_orb_nd h hp hl, pz_orb_nd h hp' hl', fun a ha b hb e => h1 (pz_per_eq (pz_orb_per h hp hl ha).1 (e ▸ (pz_orb_per h hp' hl' hb).1))⟩, pz_orb_nd h hp'' hl'', fun a ha b hb e => ?_⟩
    rcases List.mem_append.mp ha with q | q
    · exact h2 (pz_per_eq (pz_orb_per h hp hl q).1 (e ▸ (pz_orb_per h hp'' hl'' hb).1))
    · exact h3 (pz_per_eq (pz_orb_per h hp' hl' q).1 (e ▸ (pz_orb_per h hp'' hl'' hb).1))
  have := hnd.length_le_of_subset (l₂ := List.range n) (fun x hx => by
    rcases List.mem_append.mp hx with q | q
    · rcases List.mem_append.mp q with q | q
      · exact List.mem_range.mpr (pz_orb_per h hp hl q).2
      · exact List.mem_range.mpr (pz_orb_per h hp' hl' q).2
    · exact List.mem_range.mpr (pz_orb_per h hp'' hl'' q).2)
  rw [List.length_append, List.length_append, pz_orb_len, pz_orb_len, pz_orb_len, List.length_range] at this
  exact this
theorem pz_it_mul {f : Nat → Nat} {p l : Nat} (h : pz_it f l p = p) : ∀ k, pz_it f (k * l) p = p
  | 0 => by rw [Nat.zero_mul]; rfl
  | k + 1 => by rw [Nat.succ_mul, pz_it_add, h]; exact pz_it_mul h k
theorem pz_lcm_ex {n : Nat} {f g : Nat → Nat} (h : pz_perm n f g) (hn : n ≤ 8) : ∃ L, 0 < L ∧ L ≤ 15 ∧ ∀ p, p < n → ∃ l k, pz_per f p l ∧ L = k * l := by
  have fin : ∀ L, 0 < L → L ≤ 15 → (∀ p l, p < n → pz_per f p l → ∃ k, L = k * l) → ∃ L, 0 < L ∧ L ≤ 15 ∧ ∀ p, p < n → ∃ l k, pz_per f p l ∧ L = k * l := by
    intro L h0 h1 h2
    refine ⟨L, h0, h1, fun p hp => ?_⟩
    obtain ⟨l, hl⟩ := pz_per_ex h hp
    obtain ⟨k, hk⟩ := h2 p l hp hl
    exact ⟨l, k, hl, hk⟩
  by_cases h8 : ∃ p, p < n ∧ pz_per f p 8
  · obtain ⟨a, ha, hb⟩ := h8
    refine fin 8 (by omega) (by omega) (fun p l hp hl => ?_)
    have h0 := hl.1
    by_cases e : l = 8
    · exact ⟨1, by omega⟩
    · have := pz_per_2 h ha hb hp hl (fun q => e q.symm); omega
  by_cases h7 : ∃ p, p < n ∧ pz_per f p 7
  · obtain ⟨a, ha, hb⟩ := h7
    refine fin 7 (by omega) (by omega) (fun p l hp hl => ?_)
    have h0 := hl.1
    by_cases e : l = 7
    · exact ⟨1, by omega⟩
    · have := pz_per_2 h ha hb hp hl (fun q => e q.symm)
      exact ⟨7, by omega⟩
  by_cases h6 : ∃ p, p < n ∧ pz_per f p 6
  · obtain ⟨a, ha, hb⟩ := h6
    refine fin 6 (by omega) (by omega) (fun p l hp hl => ?_)
    have h0 := hl.1
    by_cases e : l = 6
    · exact ⟨1, by omega⟩
    · have := pz_per_2 h ha hb hp hl (fun q => e q.symm)
      rcases (show l = 1 ∨ l = 2 by omega) with q | q
      · exact ⟨6, by omega⟩
      · exact ⟨3, by omega⟩
  by_cases h5 : ∃ p, p < n ∧ pz_per f p 5
  · obtain ⟨a, ha, hb⟩ := h5
    by_cases h3 : ∃ p, p < n ∧ pz_per f p 3
    · obtain ⟨a', ha', hb'⟩ := h3
      refine fin 15 (by omega) (by omega) (fun p l hp hl => ?_)
      have h0 := hl.1
      by_cases e : l = 5
      · exact ⟨3, by omega⟩
      by_cases e' : l = 3
      · exact ⟨5, by omega⟩
      · have := pz_per_3 h ha hb ha' hb' hp hl (by omega) (fun q => e q.symm) (fun q => e' q.symm); omega
    · refine fin 10 (by omega) (by omega) (fun p l hp hl => ?_)
      have h0 := hl.1
      by_cases e : l = 5
      · exact ⟨2, by omega⟩
      · have := pz_per_2 h ha hb hp hl (fun q => e q.symm)
        rcases (show l = 1 ∨ l = 2 ∨ l = 3 by omega) with q | q | q
        · exact ⟨10, by omega⟩
        · exact ⟨5, by omega⟩
        · subst q; exact absurd ⟨p, hp, hl⟩ h3
  by_cases h4 : ∃ p, p < n ∧ pz_per f p 4
  · obtain ⟨a, ha, hb⟩ := h4
    by_cases h3 : ∃ p, p < n ∧ pz_per f p 3
    · obtain ⟨a', ha', hb'⟩ := h3
      refine fin 12 (by omega) (by omega) (fun p l hp hl => ?_)
      have h0 := hl.1
      by_cases e : l = 4
      · exact ⟨3, by omega⟩
      by_cases e' : l = 3
      · exact ⟨4, by omega⟩
      · have := pz_per_3 h ha hb ha' hb' hp hl (by omega) (fun q => e q.symm) (fun q => e' q.symm)
        exact ⟨12, by omega⟩
    · refine fin 4 (by omega) (by omega) (fun p l hp hl => ?_)
      have h0 := hl.1
      by_cases e : l = 4
      · exact ⟨1, by omega⟩
      · have := pz_per_2 h ha hb hp hl (fun q => e q.symm)
        rcases (show l = 1 ∨ l = 2 ∨ l = 3 by omega) with q | q | q
        · exact ⟨4, by omega⟩
        · exact ⟨2, by omega⟩
        · subst q; exact absurd ⟨p, hp, hl⟩ h3
  · refine fin 6 (by omega) (by omega) (fun p l hp hl => ?_)
    have h0 := hl.1
    have h1 := pz_per_1 h hp hl
    rcases (show l = 1 ∨ l = 2 ∨ l = 3 ∨ l = 4 ∨ l = 5 ∨ l = 6 ∨ l = 7 ∨ l = 8 by omega) with q | q | q | q | q | q | q | q
    · exact ⟨6, by omega⟩
    · exact ⟨3, by omega⟩
    · exact ⟨2, by omega⟩
    · subst q; exact absurd ⟨p, hp, hl⟩ h4
    · subst q; exact absurd ⟨p, hp, hl⟩ h5
    · subst q; exact absurd ⟨p, hp, hl⟩ h6
    · subst q; exact absurd ⟨p, hp, hl⟩ h7
    · subst q; exact absurd ⟨p, hp, hl⟩ h8
/-- the ORDER of a move -/
def pz_od (n : Nat) (f : Nat → Nat) (o : Nat) : Prop := 0 < o ∧ o ≤ 15 ∧ (∀ p, p < n → pz_it f o p = p) ∧ ∀ t, 0 < t → t < o → ¬ ∀ p, p < n → pz_it f t p = p
theorem pz_od_ex {n : Nat} {f g : Nat → Nat} (h : pz_perm n f g) (hn : n ≤ 8) : ∃ o, pz_od n f o := by
  obtain ⟨L, h0, h1, h2⟩ := pz_lcm_ex h hn
  have h3 : ∀ p, p < n → pz_it f L p = p := fun p hp => by
    obtain ⟨l, k, hl, hk⟩ := h2 p hp
    rw [hk]
    exact pz_it_mul hl.2.1 k
  obtain ⟨o, ⟨a1, a2⟩, a3⟩ := pk_least (fun t => 0 < t ∧ ∀ p, p < n → pz_it f t p = p) ⟨L, h0, h3⟩
  refine ⟨o, a1, ?_, a2, fun t ht hto q => a3 t hto ⟨ht, q⟩⟩
  by_cases e : o ≤ L
  · omega
  · exact absurd ⟨h0, h3⟩ (a3 L (by omega))
theorem pz_od_eq {n : Nat} {f : Nat → Nat} {o o' : Nat} (h1 : pz_od n f o) (h2 : pz_od n f o') : o = o' := by
  rcases Nat.lt_trichotomy o o' with h | h | h
  · exact absurd h1.2.2.1 (h2.2.2.2 o h1.1 h)
  · exact h
  · exact absurd h2.2.2.1 (h1.2.2.2 o' h2.1 h)
theorem pz_it_act {n : Nat} {g : Nat → Nat} (hg : ∀ p, p < n → g p < n) {c : Nat} (hc : c < 8 ^ n) : ∀ (t : Nat), pz_it (pz_act n g) t c < 8 ^ n ∧ ∀ q, q < n → pz_dg (pz_it (pz_act n g) t c) q = pz_dg c (pz_it g t q)
  | 0 => ⟨hc, fun _ _ => rfl⟩
  | t + 1 => by
    obtain ⟨h1, h2⟩ := pz_it_act hg hc t
    refine ⟨pz_act_lt h1, fun q hq => ?_⟩
    show pz_dg (pz_act n g (pz_it (pz_act n g) t c)) q = _
    rw [pz_act_dg h1 hq, h2 (g q) (hg q hq), ← pz_it_1]
theorem pz_it_fix {n : Nat} {f g : Nat → Nat} (h : pz_perm n f g) (t : Nat) : (∀ p, p < n → pz_it f t p = p) ↔ ∀ p, p < n → pz_it g t p = p := by
  constructor
  · intro hf p hp
    have := pz_it_back h t hp
    rw [hf p hp] at this
    exact this
  · intro hg p hp
    have := pz_it_back h.symm t hp
    rw [hg p hp] at this
    exact this
/-- a state that has p at place p: done t times the move leaves it just when it leaves all places -/
theorem pz_first_fix {n : Nat} {f g : Nat → Nat} (h : pz_perm n f g) {c : Nat} (hc : c < 8 ^ n) (hd : ∀ p, p < n → pz_dg c p = p) (t : Nat) : pz_it (pz_act n g) t c = c ↔ ∀ p, p < n → pz_it f t p = p := by
  have hg : ∀ p, p < n → g p < n := fun p hp => (h p hp).2.1
  obtain ⟨h1, h2⟩ := pz_it_act hg hc t
  rw [pz_it_fix h]
  constructor
  · intro e p hp
    have h3 := h2 p hp
    rw [e, hd p hp, hd _ (pz_it_lt hg t hp)] at h3
    exact h3.symm
  · intro e
    refine pz_ext h1 hc (fun p hp => ?_)
    rw [h2 p hp, e p hp]
theorem pz_od_act {n o : Nat} {f g : Nat → Nat} (h : pz_perm n f g) (ho : pz_od n f o) {c : Nat} (hc : c < 8 ^ n) : pz_it (pz_act n g) o c = c := by
  have hg : ∀ p, p < n → g p < n := fun p hp => (h p hp).2.1
  obtain ⟨h1, h2⟩ := pz_it_act hg hc o
  refine pz_ext h1 hc (fun p hp => ?_)
  rw [h2 p hp, (pz_it_fix h o).mp ho.2.2.1 p hp]
end
section
/-! PURE: the states of shortest rows, led back from the ball around the goal; the least row -/
/-- one more state, if it lies f steps from the start -/
def pz_lead (SA : pz_S) (f e : Nat) (T : pz_S) (y : Nat) : pz_S := if SA.2.1 y = some f then pz_take e T y else T
theorem pz_take_1 (d : Nat) (S : pz_S) (x : Nat) : (pz_take d S x).1 = if S.2.1 x = none then S.1 ++ [x] else S.1 := by
  unfold pz_take
  by_cases h : S.2.1 x = none <;> simp [h]
theorem pz_take_2 (d : Nat) (S : pz_S) (x c : Nat) : (pz_take d S x).2.1 c = if c = x ∧ S.2.1 x = none then some d else S.2.1 c := by
  unfold pz_take
  by_cases h : S.2.1 x = none
  · simp [h, pz_up]
  · simp [h]
theorem pz_take_ok {d : Nat} {S : pz_S} {x : Nat} (h : pz_ok S) : pz_ok (pz_take d S x) := by
  obtain ⟨h1, h2⟩ := h
  refine ⟨?_, fun c => ?_⟩
  · rw [pz_take_1]
    by_cases e : S.2.1 x = none
    · rw [if_pos e]
      have hx : x ∉ S.1 := fun hm => (h2 x).mp hm e
      refine List.nodup_append.mpr ⟨h1, by simp, fun a ha b hb => ?_⟩
      rw [List.mem_singleton.mp hb]
      exact fun e2 => hx (e2 ▸ ha)
    · rw [if_neg e]; exact h1
  · rw [pz_take_1, pz_take_2]
    by_cases e : S.2.1 x = none
    · rw [if_pos e, List.mem_append, List.mem_singleton]
      by_cases hc : c = x
      · simp [hc, e]
      · simp [hc, h2 c]
    · rw [if_neg e, if_neg (fun q => e q.2)]
      exact h2 c
/-- j states of the table have been led back from -/
def pz_ld (s r : Nat → List Nat) (a g len nB dB : Nat) (SA SB : pz_S) (j : Nat) (T : pz_S) : Prop :=
  pz_ok T ∧ (∃ N : List Nat, T.1 = SB.1 ++ N) ∧ (∀ c e, SB.2.1 c = some e → T.2.1 c = some e) ∧ (∀ c e, T.2.1 c = some e → pz_dist r g c e) ∧
  (∀ c e, T.2.1 c = some e → SB.2.1 c = none → dB < e) ∧
  (∀ i x e f y, nB ≤ i → i < j → T.1[i]? = some x → T.2.1 x = some e → SA.2.1 x = some (f + 1) → f + 1 + e = len → y ∈ r x → SA.2.1 y = some f → T.2.1 y ≠ none)
theorem pz_ld_0 {s r : Nat → List Nat} {a g len nB dB : Nat} {cm : Bool} {SA SB : pz_S} (hB : pz_ball r g nB dB cm SB) : pz_ld s r a g len nB dB SA SB nB SB :=
  ⟨hB.1.1, ⟨[], by simp⟩, fun _ _ h => h, fun _ _ h => pz_ball_exact hB h, fun c e h h0 => absurd h0 (pz_sn h), fun i x e f y h1 h2 => by omega⟩
/-- one state y, reached from x against a step -/
theorem pz_ld_one {s r : Nat → List Nat} (hr : ∀ a b, pz_cnt b (s a) = pz_cnt a (r b)) {a g len nB dB nA dA j : Nat} {cm : Bool} {SA SB T : pz_S} (hA : pz_ball s a nA dA cm SA) (hlen : pz_dist s a g len) (h : pz_ld s r a g len nB dB SA SB j T) (hjl : j ≤ T.1.length) {x y e f : Nat} (hxe : T.2.1 x = some e) (hdB : dB ≤ e) (hfe : f + 1 + e = len) (hy : y ∈ r x) : pz_ld s r a g len nB dB SA SB j (pz_lead SA f (e + 1) T y) ∧ (SA.2.1 y = some f → (pz_lead SA f (e + 1) T y).2.1 y ≠ none) ∧ (∀ c d, T.2.1 c = some d → (pz_lead SA f (e + 1) T y).2.1 c = some d) ∧ (∃ N : List Nat, (pz_lead SA f (e + 1) T y).1 = T.1 ++ N) := by
  unfold pz_lead
  by_cases q : SA.2.1 y = some f
  · rw [if_pos q]
    obtain ⟨h1, ⟨N, hN⟩, h3, h4, h5, h6⟩ := h
    have hk : ∀ c d, T.2.1 c = some d → (pz_take (e + 1) T y).2.1 c = some d := fun c d hc => by
      rw [pz_take_2]
      by_cases z : c = y ∧ T.2.1 y = none
      · rw [z.1, z.2] at hc; cases hc
      · rw [if_neg z]; exact hc
    have hpre : ∃ N : List Nat, (pz_take (e + 1) T y).1 = T.1 ++ N := by
      rw [pz_take_1]
      by_cases z : T.2.1 y = none
      · rw [if_pos z]; exact ⟨_, rfl⟩
      · rw [if_neg z]; exact ⟨[], by simp⟩
    have hdy : pz_dist r g y (e + 1) := by
      refine ⟨List.mem_flatMap.mpr ⟨x, (h4 x e hxe).1, hy⟩, fun k hk2 hm => ?_⟩
      have h7 : g ∈ pz_ends s y k := pz_rev_mem (fun u v => (hr v u).symm) hm
      refine hlen.2 (f + k) (by omega) ?_
      rw [pz_ends_add]
      exact List.mem_flatMap.mpr ⟨y, (pz_ball_exact hA q).1, h7⟩
    refine ⟨⟨pz_take_ok h1, ?_, fun c d hc => hk c d (h3 c d hc), fun c d hc => ?_, fun c d hc h0 => ?_, fun i z d f' y' hi hij hz hd hf hlen' hy' hfy => ?_⟩, fun _ => ?_, hk, hpre⟩
    · obtain ⟨N', hN'⟩ := hpre
      exact ⟨N ++ N', by rw [hN', hN, List.append_assoc]⟩
    · rw [pz_take_2] at hc
      by_cases z : c = y ∧ T.2.1 y = none
      · rw [if_pos z] at hc
        cases hc
        rw [z.1]; exact hdy
      · rw [if_neg z] at hc; exact h4 c d hc
    · rw [pz_take_2] at hc
      by_cases z : c = y ∧ T.2.1 y = none
      · rw [if_pos z] at hc
        cases hc
        omega
      · rw [if_neg z] at hc; exact h5 c d hc h0
    · have hzT : T.1[i]? = some z ∨ T.1.length ≤ i := by
        by_cases w : i < T.1.length
        · obtain ⟨N', hN'⟩ := hpre
          rw [hN', List.getElem?_append_left w] at hz
          exact Or.inl hz
        · exact Or.inr (by omega)
      rcases hzT with hzT | hzT
      · obtain ⟨d', hd'⟩ := pz_mem_far h1 (List.mem_of_getElem? hzT)
        have : d' = d := Option.some.inj ((hk z d' hd').symm.trans hd)
        subst this
        have h8 := h6 i z d' f' y' hi hij hzT hd' hf hlen' hy' hfy
        cases hT : T.2.1 y' with
        | none => exact absurd hT h8
        | some w => rw [hk y' w hT]; exact fun q => by cases q
      · exfalso
        omega
    · rw [pz_take_2]
      by_cases z : T.2.1 y = none
      · rw [if_pos ⟨rfl, z⟩]; exact fun q => by cases q
      · rw [if_neg (fun q => z q.2)]; exact z
  · rw [if_neg q]
    exact ⟨h, fun z => absurd z q, fun _ _ hc => hc, ⟨[], by simp⟩⟩
/-- all that lies on a shortest row, once every state has been led back from -/
theorem pz_ld_all {s r : Nat → List Nat} (hr : ∀ a b, pz_cnt b (s a) = pz_cnt a (r b)) {a g len nB dB nA dA i : Nat} {cm cm' : Bool} {SA SB T : pz_S} (hA : pz_ball s a nA dA cm SA) (hB : pz_ball r g nB dB cm' SB) (hlen : pz_dist s a g len) (hi : len = i + dB) (hid : i ≤ dA) (h : pz_ld s r a g len nB dB SA SB T.1.length T) : ∀ (e x f : Nat), pz_dist s a x f → pz_dist r g x e → f + e = len → T.2.1 x = some e := by
  intro e
  induction e with
  | zero =>
    intro x f _ hx _
    exact h.2.2.1 x 0 (pz_ball_near hB (Or.inl (Nat.zero_le _)) hx)
  | succ e ih =>
    intro x f hf hx hfe
    by_cases hd : e + 1 ≤ dB
    · exact h.2.2.1 x (e + 1) (pz_ball_near hB (Or.inl hd) hx)
    · obtain ⟨y, hy, hxy⟩ := List.mem_flatMap.mp hx.1
      have hgy : g ∈ pz_ends s y e := pz_rev_mem (fun u v => (hr v u).symm) hy
      have hys : y ∈ s x := pz_cnt_mem (by rw [hr]; have := pz_cnt_pos hxy; omega)
      have hay : y ∈ pz_ends s a (f + 1) := List.mem_flatMap.mpr ⟨x, hf.1, hys⟩
      have hlen' : pz_dist s a g (f + 1 + e) := by rw [show f + 1 + e = len by omega]; exact hlen
      obtain ⟨m1, m2⟩ := pz_dist_mid hlen' hay hgy
      have hTy := ih y (f + 1) m1 (pz_dist_rev hr m2) (by omega)
      have hAy := pz_ball_near hA (Or.inl (by omega)) m1
      have hAx := pz_ball_near hA (Or.inl (by omega)) hf
      obtain ⟨j, hj⟩ := List.getElem?_of_mem (pz_far_mem h.1 hTy)
      have hjn : nB ≤ j := by
        by_cases w : nB ≤ j
        · exact w
        · exfalso
          obtain ⟨N, hN⟩ := h.2.1
          have hl := hB.2.1
          rw [hN, List.getElem?_append_left (by omega)] at hj
          obtain ⟨e', he'⟩ := pz_mem_far hB.1.1 (List.mem_of_getElem? hj)
          have h1 := hB.2.2.1 j y e' (by omega) hj he'
          have h2 := Option.some.inj ((h.2.2.1 y e' he').symm.trans hTy)
          omega
      have hne := h.2.2.2.2.2 j y e f x hjn (List.getElem?_eq_some_iff.mp hj).1 hj hTy hAy (by omega) hxy hAx
      obtain ⟨e', he'⟩ : ∃ e', T.2.1 x = some e' := by
        cases hT : T.2.1 x with
        | none => exact absurd hT hne
        | some w => exact ⟨w, rfl⟩
      rw [he', pz_dist_eq (h.2.2.2.1 x e' he') hx]
/-- the first step, by the move's number and then by how often, with a property -/
def pz_fst (k : Nat) (mt : Nat → Nat) (P : Nat → Nat → Prop) (m t : Nat) : Prop := m < k ∧ 0 < t ∧ t ≤ mt m ∧ P m t ∧ ∀ m' t', 0 < t' → t' ≤ mt m' → m' < m ∨ (m' = m ∧ t' < t) → ¬ P m' t'
theorem pz_fst_eq {k : Nat} {mt : Nat → Nat} {P P' : Nat → Nat → Prop} (hP : ∀ m t, m < k → 0 < t → t ≤ mt m → (P m t ↔ P' m t)) {m t m' t' : Nat} (h : pz_fst k mt P m t) (h' : pz_fst k mt P' m' t') : m = m' ∧ t = t' := by
  obtain ⟨a1, a2, a3, a4, a5⟩ := h
  obtain ⟨b1, b2, b3, b4, b5⟩ := h'
  rcases Nat.lt_trichotomy m m' with q | q | q
  · exact absurd ((hP m t a1 a2 a3).mp a4) (b5 m t a2 a3 (Or.inl q))
  · subst q
    rcases Nat.lt_trichotomy t t' with z | z | z
    · exact absurd ((hP m t a1 a2 a3).mp a4) (b5 m t a2 a3 (Or.inr ⟨rfl, z⟩))
    · exact ⟨rfl, z⟩
    · exact absurd ((hP m t' b1 b2 b3).mpr b4) (a5 m t' b2 b3 (Or.inr ⟨rfl, z⟩))
  · exact absurd ((hP m' t' b1 b2 b3).mpr b4) (a5 m' t' b2 b3 (Or.inl q))
/-- the least shortest row from a, of len steps: its moves, how often, its states; f: how far to the goal -/
def pz_row (k : Nat) (mt : Nat → Nat) (gg : Nat → Nat → Nat) (f : Nat → Nat → Prop) (a len : Nat) (mv tm X : Nat → Nat) : Prop := X 0 = a ∧ ∀ i, i < len → pz_fst k mt (fun m t => f (pz_it (gg m) t (X i)) (len - i - 1)) (mv i) (tm i) ∧ X (i + 1) = pz_it (gg (mv i)) (tm i) (X i)
theorem pz_row_eq {k : Nat} {mt : Nat → Nat} {gg : Nat → Nat → Nat} {f : Nat → Nat → Prop} {a len : Nat} {mv tm X mv' tm' X' : Nat → Nat} (h : pz_row k mt gg f a len mv tm X) (h' : pz_row k mt gg f a len mv' tm' X') : ∀ i, i ≤ len → X i = X' i ∧ ∀ j, j < i → mv j = mv' j ∧ tm j = tm' j
  | 0, _ => ⟨h.1.trans h'.1.symm, fun j hj => by omega⟩
  | i + 1, hi => by
    obtain ⟨h1, h2⟩ := pz_row_eq h h' i (by omega)
    obtain ⟨a1, a2⟩ := h.2 i (by omega)
    obtain ⟨b1, b2⟩ := h'.2 i (by omega)
    rw [← h1] at b1 b2
    obtain ⟨e1, e2⟩ := pz_fst_eq (fun _ _ _ _ _ => Iff.rfl) a1 b1
    refine ⟨by rw [a2, b2, e1, e2], fun j hj => ?_⟩
    by_cases q : j = i
    · subst q; exact ⟨e1, e2⟩
    · exact h2 j (by omega)
end
section
/-! PURE: the bits of a state -/
theorem pz_nI_or (a b : Nat) : nI a ||| nI b = nI (a ||| b) := by
  apply Int32.toBitVec_inj.mp
  show BitVec.ofNat 32 a ||| BitVec.ofNat 32 b = BitVec.ofNat 32 (a ||| b)
  exact (BitVec.ofNat_or).symm
theorem pz_and7 {c : Nat} (h : c < 2 ^ 32) : nI c &&& nI 7 = nI (c % 8) := pk_andN h 3 (by decide)
theorem pz_p2 (q : Nat) : 8 ^ q = 2 ^ (3 * q) := by rw [Nat.pow_mul]
theorem pz_p8le {q : Nat} (h : q ≤ 8) : 8 ^ q ≤ 2 ^ 24 := by
  rw [pz_p2]
  exact Nat.pow_le_pow_right (by decide) (by omega)
theorem pz_p8lt {q : Nat} (h : q < 8) : 8 ^ q ≤ 2 ^ 21 := by
  rw [pz_p2]
  exact Nat.pow_le_pow_right (by decide) (by omega)
theorem pz_shl {d q : Nat} (hd : d < 8) (hq : q < 8) : nI d <<< (nI (3 * q) &&& 31) = nI (d * 8 ^ q) := by
  have h1 : ((nI (3 * q) &&& 31).toBitVec.smod 32).toNat = 3 * q := by
    rcases (show q = 0 ∨ q = 1 ∨ q = 2 ∨ q = 3 ∨ q = 4 ∨ q = 5 ∨ q = 6 ∨ q = 7 by omega) with h | h | h | h | h | h | h | h <;> subst h <;> decide
  have h2 := pz_p8lt hq
  have h3 : d * 8 ^ q ≤ 7 * 2 ^ 21 := Nat.mul_le_mul (by omega) h2
  rw [pk_shlN _ (3 * q) h1 (by rw [← pz_p2]; omega), ← pz_p2]
theorem pz_shr {c q : Nat} (hc : c < 2 ^ 31) (hq : q < 8) : nI c >>> (nI (3 * q) &&& 31) = nI (c / 8 ^ q) := by
  have h1 : ((nI (3 * q) &&& 31).toBitVec.smod 32).toNat = 3 * q := by
    rcases (show q = 0 ∨ q = 1 ∨ q = 2 ∨ q = 3 ∨ q = 4 ∨ q = 5 ∨ q = 6 ∨ q = 7 by omega) with h | h | h | h | h | h | h | h <;> subst h <;> decide
  rw [pk_shrN hc _ (3 * q) h1, ← pz_p2]
theorem pz_ushr3 {c : Nat} (hc : c < 2 ^ 32) : ((nI c).toUInt32 >>> ((nI 3).toUInt32 &&& Int32.toUInt32 31)).toInt32 = nI (c / 8) := pk_ushrN hc (nI 3) 3 (by decide)
theorem pz_ushr {c q : Nat} (hc : c < 2 ^ 32) (hq : q < 8) : ((nI c).toUInt32 >>> ((nI (3 * q)).toUInt32 &&& Int32.toUInt32 31)).toInt32 = nI (c / 8 ^ q) := by
  have h1 : (((nI (3 * q)).toUInt32 &&& Int32.toUInt32 31).toBitVec % 32).toNat = 3 * q := by
    rcases (show q = 0 ∨ q = 1 ∨ q = 2 ∨ q = 3 ∨ q = 4 ∨ q = 5 ∨ q = 6 ∨ q = 7 by omega) with h | h | h | h | h | h | h | h <;> subst h <;> decide
  rw [pk_ushrN hc _ (3 * q) h1, ← pz_p2]
/-- a digit is laid where there is none yet -/
theorem pz_or_put {B q d : Nat} (h0 : pz_dg B q = 0) (hd : d < 8) : B ||| d * 8 ^ q = B + d * 8 ^ q := by
  unfold pz_dg at h0
  have e1 : B / 8 ^ q = 8 * (B / 8 ^ q / 8) := by omega
  have e2 : B / 8 ^ q / 8 = B / 8 ^ (q + 1) := by rw [Nat.div_div_eq_div_mul, ← Nat.pow_succ]
  have e3 := Nat.div_add_mod B (8 ^ q)
  generalize hlo : B % 8 ^ q = lo at e3
  have hlo2 : lo < 8 ^ q := by rw [← hlo]; exact Nat.mod_lt _ (pz_p8 q)
  generalize hhi : B / 8 ^ q / 8 = hi at e1 e2
  have eB : B = 2 ^ (3 * (q + 1)) * hi + lo := by
    rw [← pz_p2, ← e3, e1, Nat.pow_succ, Nat.mul_assoc]
  have hp : 8 ^ (q + 1) = 8 ^ q * 8 := Nat.pow_succ ..
  have hlo3 : lo < 2 ^ (3 * (q + 1)) := by rw [← pz_p2, hp]; omega
  have hmid : 2 ^ (3 * q) * d + lo < 2 ^ (3 * (q + 1)) := by
    rw [← pz_p2, ← pz_p2, hp]
    have : 8 ^ q * d ≤ 8 ^ q * 7 := Nat.mul_le_mul_left _ (by omega)
    omega
  have hx : d * 8 ^ q = 2 ^ (3 * q) * d := by rw [← pz_p2, Nat.mul_comm]
  rw [hx, eB, Nat.two_pow_add_eq_or_of_lt hlo3, Nat.or_assoc, Nat.or_comm lo, ← Nat.two_pow_add_eq_or_of_lt (by rw [← pz_p2]; exact hlo2) d, ← Nat.two_pow_add_eq_or_of_lt hmid, ← Nat.two_pow_add_eq_or_of_lt hlo3]
  omega
theorem pz_dg_put {B q d : Nat} (h0 : pz_dg B q = 0) (hd : d < 8) (p : Nat) : pz_dg (B + d * 8 ^ q) p = if p = q then d else pz_dg B p := by
  unfold pz_dg at h0 ⊢
  by_cases h : p = q
  · subst h
    rw [if_pos rfl, Nat.add_mul_div_right _ _ (pz_p8 p)]
    omega
  · rw [if_neg h]
    by_cases hlt : p < q
    · have h5 : 8 ^ q = 8 ^ p * (8 * 8 ^ (q - p - 1)) := by
        rw [← Nat.mul_assoc, ← Nat.pow_succ, ← Nat.pow_add]
        congr 1
        omega
      have h6 : d * 8 ^ q = 8 ^ p * (8 * (d * 8 ^ (q - p - 1))) := by
        rw [h5]
        simp only [Nat.mul_left_comm]
      rw [h6, Nat.add_mul_div_left _ _ (pz_p8 p), Nat.add_mul_mod_self_left]
    · have hp : p = q + 1 + (p - q - 1) := by omega
      have e1 : ∀ x : Nat, x / 8 ^ p = x / 8 ^ q / 8 / 8 ^ (p - q - 1) := fun x => by
        rw [Nat.div_div_eq_div_mul, Nat.div_div_eq_div_mul, ← Nat.mul_assoc, ← Nat.pow_succ, ← Nat.pow_add]
        congr 2
      rw [e1, e1, Nat.add_mul_div_right _ _ (pz_p8 q)]
      congr 2
      omega
theorem pz_put_lt {B q d n : Nat} (hB : B < 8 ^ n) (h0 : pz_dg B q = 0) (hd : d < 8) (hq : q < n) : B + d * 8 ^ q < 8 ^ n := by
  have h1 : B + d * 8 ^ q = pz_mk (pz_dg (B + d * 8 ^ q)) n := by
    have h2 := pz_or_put h0 hd
    have h3 : d * 8 ^ q < 2 ^ (3 * n) := by
      have h4 : d * 8 ^ q < 8 * 8 ^ q := Nat.mul_lt_mul_of_pos_right hd (pz_p8 q)
      have h5 : 8 * 8 ^ q ≤ 8 ^ n := by rw [Nat.mul_comm, ← Nat.pow_succ]; exact Nat.pow_le_pow_right (by decide) (by omega)
      rw [← pz_p2]
      omega
    have h6 : B ||| d * 8 ^ q < 2 ^ (3 * n) := Nat.or_lt_two_pow (by rw [← pz_p2]; exact hB) h3
    rw [h2, ← pz_p2] at h6
    rw [pz_mk_dg, Nat.mod_eq_of_lt h6]
  rw [h1]
  exact pz_mk_lt (fun p _ => pz_dg_lt _ _)
theorem pz_dg_0 (p : Nat) : pz_dg 0 p = 0 := by simp [pz_dg]
theorem pz_ushrX (x s : Int32) (k : Nat) (hs : ((s.toUInt32 &&& Int32.toUInt32 31).toBitVec % 32).toNat = k) : (x.toUInt32 >>> (s.toUInt32 &&& Int32.toUInt32 31)).toInt32 = nI (x.toBitVec.toNat / 2 ^ k) := by
  apply Int32.toBitVec_inj.mp
  apply BitVec.eq_of_toNat_eq
  rw [pk_ushr x s k hs, pk_tn]
  have := x.toBitVec.isLt
  exact Nat.lt_of_le_of_lt (Nat.div_le_self _ _) this
end
section
/-! PURE: the moves as the class holds them -/
/-- what aim writes -/
def mv_aim (M : Nat → Nat → Int32) (o x y : Nat) : Nat → Nat → Int32 := pz_up (pz_up M o (upd (M o) x (nI y))) (o + 6) (upd (pz_up M o (upd (M o) x (nI y)) (o + 6)) y (nI x))
theorem mv_aim_1 (M : Nat → Nat → Int32) (o x y : Nat) : mv_aim M o x y o = upd (M o) x (nI y) := by
  unfold mv_aim
  rw [pz_up_n _ _ (by omega), pz_up_s]
theorem mv_aim_2 (M : Nat → Nat → Int32) (o x y : Nat) : mv_aim M o x y (o + 6) = upd (M (o + 6)) y (nI x) := by
  unfold mv_aim
  rw [pz_up_s, pz_up_n _ _ (by omega)]
theorem mv_aim_n (M : Nat → Nat → Int32) {o x y i : Nat} (h1 : i ≠ o) (h2 : i ≠ o + 6) : mv_aim M o x y i = M i := by
  unfold mv_aim
  rw [pz_up_n _ _ h2, pz_up_n _ _ h1]
/-- the first state: label p at place p -/
def pz_first (n : Nat) : Nat := pz_mk (fun p => p) n
theorem pz_first_lt {n : Nat} (h : n ≤ 8) : pz_first n < 8 ^ n := pz_mk_lt (fun p hp => by omega)
theorem pz_first_dg {n : Nat} (h : n ≤ 8) : ∀ p, p < n → pz_dg (pz_first n) p = p := pz_dg_mk (f := fun p => p) (fun p hp => by omega)
theorem pz_first_or {i : Nat} (h : i < 8) : pz_first i ||| i * 8 ^ i = pz_first (i + 1) := by
  rw [pz_or_put ?_ h]
  · rfl
  · unfold pz_dg
    rw [Nat.div_eq_of_lt (pz_first_lt (by omega))]
theorem pz_div8 (c i : Nat) : c / 8 ^ i / 8 = c / 8 ^ (i + 1) := by rw [Nat.div_div_eq_div_mul, ← Nat.pow_succ]
theorem pz_lt31 {n c : Nat} (hn : n ≤ 8) (hc : c < 8 ^ n) : c < 2 ^ 24 := Nat.lt_of_lt_of_le hc (pz_p8le hn)
theorem pz_divlt {n c : Nat} (hn : n ≤ 8) (hc : c < 8 ^ n) (i : Nat) : c / 8 ^ i < 2 ^ 24 := Nat.lt_of_le_of_lt (Nat.div_le_self _ _) (pz_lt31 hn hc)
/-- while a move is done: B has what the first i places bring -/
def mv_br (n c i : Nat) (g : Nat → Nat) (B : Nat) : Prop := B < 8 ^ n ∧ ∀ x, x < n → pz_dg B x = if g x < i then pz_dg c (g x) else 0
theorem mv_br_0 (n c : Nat) (g : Nat → Nat) : mv_br n c 0 g 0 := ⟨pz_p8 n, fun x _ => by rw [pz_dg_0, if_neg (by omega)]⟩
theorem mv_br_z {n c i B : Nat} {f g : Nat → Nat} (hp : pz_perm n f g) (h : mv_br n c i g B) (hi : i < n) : pz_dg B (f i) = 0 := by
  rw [h.2 (f i) (hp i hi).1, (hp i hi).2.2.1, if_neg (by omega)]
theorem mv_br_s {n c i B : Nat} {f g : Nat → Nat} (hp : pz_perm n f g) (h : mv_br n c i g B) (hi : i < n) : mv_br n c (i + 1) g (B + pz_dg c i * 8 ^ f i) := by
  have h0 := mv_br_z hp h hi
  refine ⟨pz_put_lt h.1 h0 (pz_dg_lt _ _) (hp i hi).1, fun x hx => ?_⟩
  rw [pz_dg_put h0 (pz_dg_lt _ _)]
  by_cases e : x = f i
  · rw [if_pos e, e, (hp i hi).2.2.1, if_pos (by omega)]
  · rw [if_neg e, h.2 x hx]
    by_cases q : g x < i
    · rw [if_pos q, if_pos (by omega)]
    · rw [if_neg q, if_neg (fun z => e (by rw [← (hp x hx).2.2.2]; congr 1; omega))]
theorem mv_br_e {n c B : Nat} {f g : Nat → Nat} (hp : pz_perm n f g) (h : mv_br n c n g B) (hc : c < 8 ^ n) : B = pz_act n g c := by
  refine pz_ext h.1 (pz_act_lt hc) (fun x hx => ?_)
  rw [h.2 x hx, if_pos (hp x hx).2.1, pz_act_dg hc hx]
theorem mv_or {n c i B : Nat} {f g : Nat → Nat} (hp : pz_perm n f g) (h : mv_br n c i g B) (hi : i < n) : nI B ||| nI (pz_dg c i * 8 ^ f i) = nI (B + pz_dg c i * 8 ^ f i) := by
  rw [pz_nI_or, pz_or_put (mv_br_z hp h hi) (pz_dg_lt _ _)]
/-- the order, found by trying -/
theorem mv_od_at {n t : Nat} {f g : Nat → Nat} (hn : n ≤ 8) (h : pz_perm n f g) (h0 : 0 < t) (h1 : t ≤ 15) (hf : pz_it (pz_act n g) t (pz_first n) = pz_first n) (hl : ∀ j, 0 < j → j < t → pz_it (pz_act n g) j (pz_first n) ≠ pz_first n) : pz_od n f t :=
  ⟨h0, h1, (pz_first_fix h (pz_first_lt hn) (pz_first_dg hn) t).mp hf, fun j hj hjt q => hl j hj hjt ((pz_first_fix h (pz_first_lt hn) (pz_first_dg hn) j).mpr q)⟩
theorem mv_od_15 {n : Nat} {f g : Nat → Nat} (hn : n ≤ 8) (h : pz_perm n f g) (hl : ∀ j, 0 < j → j < 15 → pz_it (pz_act n g) j (pz_first n) ≠ pz_first n) : pz_od n f 15 := by
  obtain ⟨o, ho⟩ := pz_od_ex h hn
  by_cases e : o < 15
  · exact absurd ((pz_first_fix h (pz_first_lt hn) (pz_first_dg hn) o).mpr ho.2.2.1) (hl o ho.1 e)
  · have : o = 15 := by have := ho.2.1; omega
    rw [← this]; exact ho
/-- a move lengthened: x goes to y, y where x went -/
def pz_cyc (f : Nat → Nat) (x y : Nat) : Nat → Nat := pz_up (pz_up f x y) y (f x)
def pz_cyi (f g : Nat → Nat) (x y : Nat) : Nat → Nat := pz_up (pz_up g y x) (f x) y
theorem pz_cyc_ok {n x y : Nat} {f g : Nat → Nat} (h : pz_perm n f g) (hx : x < n) (hy : y < n) (hxy : x ≠ y) (hfy : f y = y) : pz_perm n (pz_cyc f x y) (pz_cyi f g x y) := by
  have hgy : g y = y := by have := (h y hy).2.2.1; rw [hfy] at this; exact this
  have hfx : f x ≠ y := fun e => hxy (by have := (h x hx).2.2.1; rw [e, hgy] at this; exact this.symm)
  have hfxn := (h x hx).1
  have hgfx := (h x hx).2.2.1
  intro p hp
  have ep := h p hp
  have c1 : pz_cyc f x y p = if p = y then f x else if p = x then y else f p := rfl
  have c2 : ∀ z, pz_cyc f x y z = if z = y then f x else if z = x then y else f z := fun _ => rfl
  have c3 : ∀ z, pz_cyi f g x y z = if z = f x then y else if z = y then x else g z := fun _ => rfl
  refine ⟨?_, ?_, ?_, ?_⟩
  · rw [c2]
    by_cases e1 : p = y
    · rw [if_pos e1]; exact hfxn
    · rw [if_neg e1]
      by_cases e2 : p = x
      · rw [if_pos e2]; exact hy
      · rw [if_neg e2]; exact ep.1
  · rw [c3]
    by_cases e1 : p = f x
    · rw [if_pos e1]; exact hy
    · rw [if_neg e1]
      by_cases e2 : p = y
      · rw [if_pos e2]; exact hx
      · rw [if_neg e2]; exact ep.2.1
  · rw [c2]
    by_cases e1 : p = y
    · rw [if_pos e1, c3, if_pos rfl, e1]
    · rw [if_neg e1]
      by_cases e2 : p = x
      · rw [if_pos e2, c3, if_neg (fun q => hfx q.symm), if_pos rfl, e2]
      · rw [if_neg e2, c3]
        have n1 : f p ≠ f x := fun q => e2 (by rw [← ep.2.2.1, q, hgfx])
        have n2 : f p ≠ y := fun q => e1 (by rw [← ep.2.2.1, q, hgy])
        rw [if_neg n1, if_neg n2, ep.2.2.1]
  · rw [c3]
    by_cases e1 : p = f x
    · rw [if_pos e1, c2, if_pos rfl, e1]
    · rw [if_neg e1]
      by_cases e2 : p = y
      · rw [if_pos e2, c2, if_neg hxy, if_pos rfl, e2]
      · rw [if_neg e2, c2]
        have n1 : g p ≠ y := fun q => e2 (by rw [← ep.2.2.2, q, hfy])
        have n2 : g p ≠ x := fun q => e1 (by rw [← ep.2.2.2, q])
        rw [if_neg n1, if_neg n2, ep.2.2.2]
/-- the rows hold the moves: sg where a place's label goes, tu where it comes from, od the orders -/
def mv_ok (n k : Nat) (f : Nat → Int32) (M : Nat → Nat → Int32) (sg tu : Nat → Nat → Nat) (od : Nat → Nat) : Prop := ∀ o, o < k → pz_perm n (sg o) (tu o) ∧ pz_od n (sg o) (od o) ∧ f o = nI (od o) ∧ ∀ p, p < n → M o p = nI (sg o p) ∧ M (o + 6) p = nI (tu o p)
theorem pz_od_id (n : Nat) : pz_od n (fun p => p) 1 := ⟨by omega, by omega, fun p _ => rfl, fun t h0 h1 => by omega⟩
theorem mv_ok_add {n k : Nat} {f : Nat → Int32} {M M' : Nat → Nat → Int32} {sg tu : Nat → Nat → Nat} {od : Nat → Nat} (hn : n ≤ 8) (hk : k < 6) (h : mv_ok n k f M sg tu od) (h1 : ∀ p, p < 8 → M' k p = nI p ∧ M' (k + 6) p = nI p) (h2 : ∀ i, i ≠ k → i ≠ k + 6 → M' i = M i) : mv_ok n (k + 1) (upd f k (nI 1)) M' (pz_up sg k (fun p => p)) (pz_up tu k (fun p => p)) (pz_up od k 1) := by
  intro o ho
  by_cases e : o = k
  · subst e
    rw [pz_up_s, pz_up_s, pz_up_s, pk_us]
    exact ⟨fun p hp => ⟨hp, hp, rfl, rfl⟩, pz_od_id n, rfl, fun p hp => h1 p (by omega)⟩
  · rw [pz_up_n _ _ e, pz_up_n _ _ e, pz_up_n _ _ e, pk_un e]
    obtain ⟨a1, a2, a3, a4⟩ := h o (by omega)
    refine ⟨a1, a2, a3, fun p hp => ?_⟩
    rw [h2 o (by omega) (by omega), h2 (o + 6) (by omega) (by omega)]
    exact a4 p hp
theorem mv_ok_len {n k mo x y o' : Nat} {f : Nat → Int32} {M : Nat → Nat → Int32} {sg tu : Nat → Nat → Nat} {od : Nat → Nat} (hk : k ≤ 6) (h : mv_ok n k f M sg tu od) (hm : mo < k) (hx : x < n) (hy : y < n) (hxy : x ≠ y) (hf : sg mo y = y) (ho : pz_od n (pz_cyc (sg mo) x y) o') : mv_ok n k (upd f mo (nI o')) (mv_aim (mv_aim M mo x y) mo y (sg mo x)) (pz_up sg mo (pz_cyc (sg mo) x y)) (pz_up tu mo (pz_cyi (sg mo) (tu mo) x y)) (pz_up od mo o') := by
  intro o hok
  by_cases e : o = mo
  · subst e
    obtain ⟨a1, a2, a3, a4⟩ := h o hok
    rw [pz_up_s, pz_up_s, pz_up_s, pk_us]
    refine ⟨pz_cyc_ok a1 hx hy hxy hf, ho, rfl, fun p hp => ?_⟩
    rw [mv_aim_1, mv_aim_1, mv_aim_2, mv_aim_2]
    constructor
    · by_cases e1 : p = y
      · subst e1; rw [pk_us]; unfold pz_cyc; rw [pz_up_s]
      · rw [pk_un e1]; unfold pz_cyc; rw [pz_up_n _ _ e1]
        by_cases e2 : p = x
        · subst e2; rw [pk_us, pz_up_s]
        · rw [pk_un e2, pz_up_n _ _ e2]; exact (a4 p hp).1
    · by_cases e1 : p = sg o x
      · subst e1; rw [pk_us]; unfold pz_cyi; rw [pz_up_s]
      · rw [pk_un e1]; unfold pz_cyi; rw [pz_up_n _ _ e1]
        by_cases e2 : p = y
        · subst e2; rw [pk_us, pz_up_s]
        · rw [pk_un e2, pz_up_n _ _ e2]; exact (a4 p hp).2
  · rw [pz_up_n _ _ e, pz_up_n _ _ e, pz_up_n _ _ e, pk_un e]
    obtain ⟨a1, a2, a3, a4⟩ := h o hok
    refine ⟨a1, a2, a3, fun p hp => ?_⟩
    rw [mv_aim_n _ (by omega) (by omega), mv_aim_n _ (by omega) (by omega), mv_aim_n _ (by omega) (by omega), mv_aim_n _ (by omega) (by omega)]
    exact a4 p hp
end
section
/-! PURE: the graph of states as the class holds it -/
theorem gq_su : ∀ n, n < 32 → (((nI n).toUInt32 &&& Int32.toUInt32 31).toBitVec % 32).toNat = n := by decide
/-- where one begins to look for a state -/
def gq_hh (b c : Nat) : Nat := (nI c * (-1640531535)).toBitVec.toNat / 2 ^ (32 - b)
theorem gq_hh_lt {b c : Nat} (hb : b ≤ 30) : gq_hh b c < 2 ^ b := by
  unfold gq_hh
  have h1 := (nI c * (-1640531535)).toBitVec.isLt
  rw [Nat.div_lt_iff_lt_mul (Nat.pow_pos (by decide)), ← Nat.pow_add, show b + (32 - b) = 32 by omega]
  exact h1
theorem gq_hash {b c : Nat} (h0 : 0 < b) (hb : b ≤ 30) : ((nI c * (-1640531535)).toUInt32 >>> ((nI (32 - b)).toUInt32 &&& Int32.toUInt32 31)).toInt32 = nI ((gq_hh b c + 0) % 2 ^ b) := by
  rw [pz_ushrX _ _ (32 - b) (gq_su _ (by omega)), Nat.add_zero, Nat.mod_eq_of_lt (gq_hh_lt hb)]
  rfl
theorem gq_p31 {b : Nat} (hb : b ≤ 30) : 2 ^ b ≤ 2 ^ 30 := Nat.pow_le_pow_right (by decide) hb
theorem gq_next {b x j : Nat} (hb : b ≤ 30) : nI ((x + j) % 2 ^ b + 1) &&& nI (2 ^ b - 1) = nI ((x + (j + 1)) % 2 ^ b) := by
  have h1 := gq_p31 hb
  have h2 : (x + j) % 2 ^ b < 2 ^ b := Nat.mod_lt _ (Nat.pow_pos (by decide))
  rw [pk_andN (k := b) (by omega) (pk_tn (by omega)), pz_next (2 ^ b) x j]
/-- ways: a move, or a move undone -/
def gq_way (k u : Nat) : Prop := u < 12 ∧ (u < 6 → u < k) ∧ (6 ≤ u → u - 6 < k)
def gq_out (sg tu : Nat → Nat → Nat) (u : Nat) : Nat → Nat := if u < 6 then sg u else tu (u - 6)
def gq_in (sg tu : Nat → Nat → Nat) (u : Nat) : Nat → Nat := if u < 6 then tu u else sg (u - 6)
theorem gq_perm {n k u : Nat} {f : Nat → Int32} {M : Nat → Nat → Int32} {sg tu : Nat → Nat → Nat} {od : Nat → Nat} (h : mv_ok n k f M sg tu od) (hu : gq_way k u) : pz_perm n (gq_out sg tu u) (gq_in sg tu u) := by
  unfold gq_out gq_in
  by_cases e : u < 6
  · rw [if_pos e, if_pos e]; exact (h u (hu.2.1 e)).1
  · rw [if_neg e, if_neg e]; exact (h (u - 6) (hu.2.2 (by omega))).1.symm
theorem gq_row {n k u : Nat} {f : Nat → Int32} {M : Nat → Nat → Int32} {sg tu : Nat → Nat → Nat} {od : Nat → Nat} (h : mv_ok n k f M sg tu od) (hu : gq_way k u) (p : Nat) (hp : p < n) : M u p = nI (gq_out sg tu u p) := by
  unfold gq_out
  by_cases e : u < 6
  · rw [if_pos e]; exact ((h u (hu.2.1 e)).2.2.2 p hp).1
  · rw [if_neg e]
    have := ((h (u - 6) (hu.2.2 (by omega))).2.2.2 p hp).2
    rwa [show u - 6 + 6 = u by omega] at this
/-- the way back -/
def gq_un (u : Nat) : Nat := if u < 6 then u + 6 else u - 6
theorem gq_un_way {k u : Nat} (hk : k ≤ 6) (h : gq_way k u) : gq_way k (gq_un u) := by
  unfold gq_un gq_way at *
  by_cases e : u < 6
  · rw [if_pos e]; have := h.2.1 e; omega
  · rw [if_neg e]; have := h.2.2 (by omega); omega
theorem gq_un_in {sg tu : Nat → Nat → Nat} {u : Nat} (h : u < 12) : gq_in sg tu (gq_un u) = gq_out sg tu u := by
  unfold gq_in gq_out gq_un
  by_cases e : u < 6
  · rw [if_pos e, if_pos e, if_neg (by omega), show u + 6 - 6 = u by omega]
  · rw [if_neg e, if_neg e, if_pos (by omega)]
/-- the table of the states G that have been come upon, and where ways lead from them as far as is known -/
def gq_ok (n a0 b k : Nat) (sg tu : Nat → Nat → Nat) (G : List Nat) (st sl : Nat → Int32) (L : Nat → Nat → Int32) : Prop :=
  G.Nodup ∧ (∀ x, x ∈ G → pz_arr n a0 x) ∧ (∀ i x, G[i]? = some x → st i = nI x) ∧ (∃ s : Nat → Nat, (∀ j, j < 2 ^ b → sl j = nI (s j)) ∧ pz_ht (2 ^ b) (gq_hh b) G s) ∧
  (∀ u i x, gq_way k u → G[i]? = some x → L u i = -1 ∨ ∃ j, L u i = nI j ∧ G[j]? = some (pz_act n (gq_in sg tu u) x))
theorem gq_len {n a0 b k : Nat} {sg tu : Nat → Nat → Nat} {G : List Nat} {st sl : Nat → Int32} {L : Nat → Nat → Int32} (h : gq_ok n a0 b k sg tu G st sl L) : G.length ≤ pz_fact n := pz_arr_len h.1 h.2.1
theorem gq_room {n a0 b k c : Nat} {sg tu : Nat → Nat → Nat} {G : List Nat} {st sl : Nat → Int32} {L : Nat → Nat → Int32} (h : gq_ok n a0 b k sg tu G st sl L) (hc : pz_arr n a0 c) (hn : c ∉ G) : G.length < pz_fact n := by
  have h1 : (G ++ [c]).Nodup := List.nodup_append.mpr ⟨h.1, by simp, fun x hx y hy e => hn (by rw [List.mem_singleton.mp hy] at e; exact e ▸ hx)⟩
  have h2 := pz_arr_len (a := a0) (n := n) h1 (fun x hx => by
    rcases List.mem_append.mp hx with q | q
    · exact h.2.1 x q
    · rw [List.mem_singleton.mp q]; exact hc)
  rw [List.length_append, List.length_singleton] at h2
  omega
/-- a new state -/
theorem gq_put {n a0 b k c j : Nat} {sg tu : Nat → Nat → Nat} {G : List Nat} {st sl : Nat → Int32} {L L' : Nat → Nat → Int32} {s : Nat → Nat} (h : gq_ok n a0 b k sg tu G st sl L) (hc : pz_arr n a0 c) (hn : c ∉ G) (hs : ∀ j, j < 2 ^ b → sl j = nI (s j)) (ht : pz_ht (2 ^ b) (gq_hh b) G s) (hj : j < 2 ^ b) (h0 : s ((gq_hh b c + j) % 2 ^ b) = 0) (hl : ∀ j', j' < j → ¬ pz_stop (2 ^ b) (gq_hh b) G s c j')
    (hL1 : ∀ u, gq_way k u → L' u G.length = -1) (hL2 : ∀ u i, i ≠ G.length → L' u i = L u i) : gq_ok n a0 b k sg tu (G ++ [c]) (upd st G.length (nI c)) (upd sl ((gq_hh b c + j) % 2 ^ b) (nI (G.length + 1))) L' := by
  refine ⟨List.nodup_append.mpr ⟨h.1, by simp, fun x hx y hy e => hn (by rw [List.mem_singleton.mp hy] at e; exact e ▸ hx)⟩, fun x hx => ?_, fun i x hx => ?_, ⟨pz_up s ((gq_hh b c + j) % 2 ^ b) (G.length + 1), fun i hi => ?_, pz_ht_put ht (Nat.pow_pos (by decide)) hj h0 hl⟩, fun u i x hu hx => ?_⟩
  · rcases List.mem_append.mp hx with q | q
    · exact h.2.1 x q
    · rw [List.mem_singleton.mp q]; exact hc
  · by_cases e : i = G.length
    · subst e
      rw [List.getElem?_append_right (Nat.le_refl _), Nat.sub_self] at hx
      rw [pk_us, ← (Option.some.inj hx : c = x)]
    · have hlt := (List.getElem?_eq_some_iff.mp hx).1
      rw [List.length_append, List.length_singleton] at hlt
      rw [List.getElem?_append_left (by omega)] at hx
      rw [pk_un e]; exact h.2.2.1 i x hx
  · by_cases e : i = (gq_hh b c + j) % 2 ^ b
    · subst e; rw [pk_us, pz_up_s]
    · rw [pk_un e, pz_up_n _ _ e]; exact hs i hi
  · by_cases e : i = G.length
    · subst e; exact Or.inl (hL1 u hu)
    · have hlt := (List.getElem?_eq_some_iff.mp hx).1
      rw [List.length_append, List.length_singleton] at hlt
      rw [List.getElem?_append_left (by omega)] at hx
      rw [hL2 u i e]
      rcases h.2.2.2.2 u i x hu hx with q | ⟨j', q1, q2⟩
      · exact Or.inl q
      · exact Or.inr ⟨j', q1, by rw [List.getElem?_append_left (List.getElem?_eq_some_iff.mp q2).1]; exact q2⟩
/-- a link, and the link back -/
theorem gq_link {n a0 b k u i j x : Nat} {f : Nat → Int32} {M : Nat → Nat → Int32} {sg tu : Nat → Nat → Nat} {od : Nat → Nat} {G : List Nat} {st sl : Nat → Int32} {L : Nat → Nat → Int32} (hm : mv_ok n k f M sg tu od) (h : gq_ok n a0 b k sg tu G st sl L) (hu : gq_way k u) (hi : G[i]? = some x) (hj : G[j]? = some (pz_act n (gq_in sg tu u) x)) : gq_ok n a0 b k sg tu G st sl (pz_up (pz_up L u (upd (L u) i (nI j))) (gq_un u) (upd (pz_up L u (upd (L u) i (nI j)) (gq_un u)) j (nI i))) := by
  refine ⟨h.1, h.2.1, h.2.2.1, h.2.2.2.1, fun v y z hv hz => ?_⟩
  have hne : gq_un u ≠ u := by unfold gq_un; by_cases e : u < 6 <;> simp [e] <;> omega
  have hback : pz_act n (gq_in sg tu (gq_un u)) (pz_act n (gq_in sg tu u) x) = x := by
    rw [gq_un_in hu.1]
    exact pz_act_inv (gq_perm hm hu) x
  by_cases e : v = gq_un u
  · subst e
    rw [pz_up_s, pz_up_n _ _ hne]
    by_cases q : y = j
    · subst q
      rw [pk_us]
      have : z = pz_act n (gq_in sg tu u) x := Option.some.inj (hz.symm.trans hj)
      subst this
      exact Or.inr ⟨i, rfl, by rw [hback]; exact hi⟩
    · rw [pk_un q]; exact h.2.2.2.2 _ y z hv hz
  · rw [pz_up_n _ _ e]
    by_cases e2 : v = u
    · subst e2
      rw [pz_up_s]
      by_cases q : y = i
      · subst q
        rw [pk_us]
        have : z = x := Option.some.inj (hz.symm.trans hi)
        subst this
        exact Or.inr ⟨j, rfl, hj⟩
      · rw [pk_un q]; exact h.2.2.2.2 _ y z hv hz
    · rw [pz_up_n _ _ e2]; exact h.2.2.2.2 v y z hv hz
theorem pz_fact_le : ∀ {n : Nat}, n ≤ 8 → pz_fact n ≤ 40320
  | 0, _ => by decide
  | 1, _ => by decide
  | 2, _ => by decide
  | 3, _ => by decide
  | 4, _ => by decide
  | 5, _ => by decide
  | 6, _ => by decide
  | 7, _ => by decide
  | 8, _ => by decide
  | n + 9, h => by omega
theorem pz_fact_pos : ∀ n : Nat, 0 < pz_fact n
  | 0 => by decide
  | n + 1 => Nat.mul_pos (by omega) (pz_fact_pos n)
end
section
/-! PURE: a ball as the class holds it: by the numbers of the states in the graph -/
def bl_fo : Option Nat → Int32
  | none => -1
  | some d => nI d
theorem bl_fo_n {o : Option Nat} (h : ∀ d, o = some d → d < 2 ^ 30) : bl_fo o = -1 ↔ o = none := by
  cases o with
  | none => exact ⟨fun _ => rfl, fun _ => rfl⟩
  | some d =>
    have hd := h d rfl
    refine ⟨fun e => ?_, fun e => by cases e⟩
    have h1 : ¬ (nI d < 0) := nI_pos (by omega)
    have e2 : nI d = -1 := e
    rw [e2] at h1
    exact absurd (by decide) h1
theorem bl_fo_s {o : Option Nat} {d : Nat} (h : ∀ d, o = some d → d < 2 ^ 30) (hd : d < 2 ^ 30) : bl_fo o = nI d ↔ o = some d := by
  cases o with
  | none =>
    refine ⟨fun e => ?_, fun e => by cases e⟩
    have h1 : ¬ (nI d < 0) := nI_pos (by omega)
    have e2 : (-1 : Int32) = nI d := e
    rw [← e2] at h1
    exact absurd (by decide) h1
  | some e =>
    have he := h e rfl
    constructor
    · intro q
      have q2 : nI e = nI d := q
      rw [(nI_eq (by omega) (by omega)).mp q2]
    · intro q; cases q; rfl
/-- the rows far, ways, reached hold the table S by the numbers of G -/
def bl_ok (cap : Nat) (G : List Nat) (S : pz_S) (fa : Nat → Int32) (wy : Nat → Int64) (re : Nat → Int32) : Prop :=
  pz_ok S ∧ (∀ i x, G[i]? = some x → fa i = bl_fo (S.2.1 x) ∧ (S.2.1 x ≠ none → wy i = S.2.2 x)) ∧ (∀ i, G.length ≤ i → i < cap → fa i = -1) ∧ (∀ i x, S.1[i]? = some x → ∃ j, re i = nI j ∧ G[j]? = some x)
theorem bl_in {cap : Nat} {G : List Nat} {S : pz_S} {fa : Nat → Int32} {wy : Nat → Int64} {re : Nat → Int32} (h : bl_ok cap G S fa wy re) {x : Nat} (hx : x ∈ S.1) : x ∈ G := by
  obtain ⟨i, hi⟩ := List.getElem?_of_mem hx
  obtain ⟨j, -, hj⟩ := h.2.2.2 i x hi
  exact List.mem_of_getElem? hj
theorem bl_len {cap : Nat} {G : List Nat} {S : pz_S} {fa : Nat → Int32} {wy : Nat → Int64} {re : Nat → Int32} (h : bl_ok cap G S fa wy re) : S.1.length ≤ G.length := h.1.1.length_le_of_subset (fun _ hx => bl_in h hx)
theorem bl_new {cap : Nat} {G : List Nat} {S : pz_S} {fa : Nat → Int32} {wy : Nat → Int64} {re : Nat → Int32} (h : bl_ok cap G S fa wy re) {x : Nat} (hx : x ∈ G) (hn : S.2.1 x = none) : S.1.length < G.length := by
  have hxs : x ∉ S.1 := fun q => (h.1.2 x).mp q hn
  have h1 : (S.1 ++ [x]).Nodup := List.nodup_append.mpr ⟨h.1.1, by simp, fun y hy z hz e => hxs (by rw [List.mem_singleton.mp hz] at e; exact e ▸ hy)⟩
  have h2 := h1.length_le_of_subset (l₂ := G) (fun y hy => by
    rcases List.mem_append.mp hy with q | q
    · exact bl_in h q
    · rw [List.mem_singleton.mp q]; exact hx)
  rw [List.length_append, List.length_singleton] at h2
  omega
/-- more states in the graph: the ball stays -/
theorem bl_more {cap : Nat} {G G' : List Nat} {S : pz_S} {fa : Nat → Int32} {wy : Nat → Int64} {re : Nat → Int32} (h : bl_ok cap G S fa wy re) (hp : ∃ Nw, G' = G ++ Nw) (hn : G'.Nodup) (hc : G'.length ≤ cap) : bl_ok cap G' S fa wy re := by
  obtain ⟨Nw, rfl⟩ := hp
  refine ⟨h.1, fun i x hx => ?_, fun i hi hic => h.2.2.1 i (by rw [List.length_append] at hi; omega) hic, fun i x hx => ?_⟩
  · by_cases e : i < G.length
    · rw [List.getElem?_append_left e] at hx; exact h.2.1 i x hx
    · have hl := (List.getElem?_eq_some_iff.mp hx).1
      have hno : S.2.1 x = none := by
        cases hq : S.2.1 x with
        | none => rfl
        | some d =>
          exfalso
          have hm := bl_in h (pz_far_mem h.1 hq)
          obtain ⟨j, hj⟩ := List.getElem?_of_mem hm
          have hjl := (List.getElem?_eq_some_iff.mp hj).1
          have hj' : (G ++ Nw)[j]? = some x := by rw [List.getElem?_append_left hjl]; exact hj
          have := pz_getinj hn hj' hx
          omega
      rw [hno]
      exact ⟨h.2.2.1 i (by omega) (by omega), fun q => absurd rfl q⟩
  · obtain ⟨j, h1, h2⟩ := h.2.2.2 i x hx
    exact ⟨j, h1, by rw [List.getElem?_append_left (List.getElem?_eq_some_iff.mp h2).1]; exact h2⟩
theorem bl_take {cap d i x : Nat} {G : List Nat} {S : pz_S} {fa : Nat → Int32} {wy : Nat → Int64} {re : Nat → Int32} (h : bl_ok cap G S fa wy re) (hG : G.Nodup) (hi : G[i]? = some x) (hx : S.2.1 x = none) : bl_ok cap G (pz_take d S x) (upd fa i (nI d)) (vp_updL wy i 0) (upd re S.1.length (nI i)) := by
  have hT : pz_take d S x = (S.1 ++ [x], pz_up S.2.1 x (some d), pz_up S.2.2 x 0) := if_pos hx
  refine ⟨pz_take_ok h.1, fun j y hy => ?_, fun j hj hjc => ?_, fun j y hy => ?_⟩
  · rw [hT]
    show upd fa i (nI d) j = bl_fo (pz_up S.2.1 x (some d) y) ∧ (pz_up S.2.1 x (some d) y ≠ none → vp_updL wy i 0 j = pz_up S.2.2 x 0 y)
    by_cases e : j = i
    · subst e
      have : y = x := Option.some.inj (hy.symm.trans hi)
      subst this
      rw [pk_us, pz_up_s, pk_uLs, pz_up_s]
      exact ⟨rfl, fun _ => rfl⟩
    · have hne : y ≠ x := fun q => e (by subst q; exact pz_getinj hG hy hi)
      rw [pk_un e, pz_up_n _ _ hne, pk_uLn e, pz_up_n _ _ hne]
      exact h.2.1 j y hy
  · have hil := (List.getElem?_eq_some_iff.mp hi).1
    rw [pk_un (by omega)]
    exact h.2.2.1 j hj hjc
  · rw [hT] at hy
    have hy : (S.1 ++ [x])[j]? = some y := hy
    by_cases e : j = S.1.length
    · subst e
      rw [List.getElem?_append_right (Nat.le_refl _), Nat.sub_self] at hy
      have : y = x := (Option.some.inj hy).symm
      subst this
      rw [pk_us]
      exact ⟨i, rfl, hi⟩
    · have hl := (List.getElem?_eq_some_iff.mp hy).1
      rw [List.length_append, List.length_singleton] at hl
      rw [List.getElem?_append_left (by omega)] at hy
      rw [pk_un e]
      exact h.2.2.2 j y hy
theorem bl_take_len {d x : Nat} {S : pz_S} (hx : S.2.1 x = none) : (pz_take d S x).1.length = S.1.length + 1 := by
  rw [pz_take_1, if_pos hx, List.length_append, List.length_singleton]
theorem bl_bump {cap d i x : Nat} {w : Int64} {G : List Nat} {S : pz_S} {fa : Nat → Int32} {wy : Nat → Int64} {re : Nat → Int32} (h : bl_ok cap G S fa wy re) (hG : G.Nodup) (hi : G[i]? = some x) (hx : S.2.1 x = some d) : bl_ok cap G (pz_bump d w S x) fa (vp_updL wy i (wy i + w)) re := by
  have hT : pz_bump d w S x = (S.1, S.2.1, pz_up S.2.2 x (S.2.2 x + w)) := if_pos hx
  rw [hT]
  refine ⟨h.1, fun j y hy => ?_, h.2.2.1, h.2.2.2⟩
  show fa j = bl_fo (S.2.1 y) ∧ (S.2.1 y ≠ none → vp_updL wy i (wy i + w) j = pz_up S.2.2 x (S.2.2 x + w) y)
  obtain ⟨h1, h2⟩ := h.2.1 j y hy
  refine ⟨h1, fun q => ?_⟩
  by_cases e : j = i
  · subst e
    have : y = x := Option.some.inj (hy.symm.trans hi)
    subst this
    rw [pk_uLs, pz_up_s, h2 q]
  · have hne : y ≠ x := fun q => e (by subst q; exact pz_getinj hG hy hi)
    rw [pk_uLn e, pz_up_n _ _ hne]
    exact h2 q
theorem pz_bump_no {d x : Nat} {w : Int64} {S : pz_S} (h : S.2.1 x ≠ some d) : pz_bump d w S x = S := if_neg h
theorem pz_take_no {d x : Nat} {S : pz_S} (h : S.2.1 x ≠ none) : pz_take d S x = S := if_neg h
theorem pz_bump_len (d x : Nat) (w : Int64) (S : pz_S) : (pz_bump d w S x).1 = S.1 := by
  unfold pz_bump
  by_cases e : S.2.1 x = some d <;> simp [e]
theorem pz_bump_far (d x : Nat) (w : Int64) (S : pz_S) : (pz_bump d w S x).2.1 = S.2.1 := by
  unfold pz_bump
  by_cases e : S.2.1 x = some d <;> simp [e]
theorem pz_vis_keep {d e x c : Nat} {w : Int64} {S : pz_S} (hx : S.2.1 x = some e) (hne : e ≠ d) : (pz_vis d w S c).2.1 x = some e ∧ (pz_vis d w S c).2.2 x = S.2.2 x := by
  rw [pz_vis_2, pz_vis_3]
  by_cases q : x = c
  · subst q
    rw [if_neg (fun z => by rw [hx] at z; cases z.2), if_pos rfl, if_neg (by rw [hx]; exact fun z => by cases z), if_neg (by rw [hx]; exact fun z => hne (Option.some.inj z))]
    exact ⟨hx, rfl⟩
  · rw [if_neg (fun z => q z.1), if_neg q]
    exact ⟨hx, rfl⟩
/-- bounds that both rows and branches need -/
theorem pz_vis_lt {d c : Nat} {w : Int64} {S : pz_S} {m : Nat} (h : ∀ x e, S.2.1 x = some e → e < m) (hd : d < m) : ∀ x e, (pz_vis d w S c).2.1 x = some e → e < m := by
  intro x e hx
  rw [pz_vis_2] at hx
  by_cases q : x = c ∧ S.2.1 c = none
  · rw [if_pos q] at hx; cases hx; exact hd
  · rw [if_neg q] at hx; exact h x e hx
/-- what must hold for a ball to be begun again: each known place of far stands in reached -/
def bl_raw (cap : Nat) (fa re : Nat → Int32) (sz : Nat) : Prop := sz ≤ cap ∧ (∀ i, i < sz → ∃ j, j < cap ∧ re i = nI j) ∧ ∀ i, i < cap → fa i = -1 ∨ ∃ y, y < sz ∧ re y = nI i
theorem bl_ok_raw {cap : Nat} {G : List Nat} {S : pz_S} {fa : Nat → Int32} {wy : Nat → Int64} {re : Nat → Int32} (h : bl_ok cap G S fa wy re) (hG : G.length ≤ cap) (hn : G.Nodup) : bl_raw cap fa re S.1.length := by
  refine ⟨Nat.le_trans (bl_len h) hG, fun i hi => ?_, fun i hi => ?_⟩
  · obtain ⟨j, h1, h2⟩ := h.2.2.2 i _ (List.getElem?_eq_getElem hi)
    exact ⟨j, by have := (List.getElem?_eq_some_iff.mp h2).1; omega, h1⟩
  · by_cases e : i < G.length
    · have hx := List.getElem?_eq_getElem e
      have h1 := (h.2.1 i _ hx).1
      cases hq : S.2.1 G[i] with
      | none => rw [hq] at h1; exact Or.inl h1
      | some d =>
        right
        obtain ⟨y, hy⟩ := List.getElem?_of_mem (pz_far_mem h.1 hq)
        obtain ⟨j, g1, g2⟩ := h.2.2.2 y _ hy
        refine ⟨y, (List.getElem?_eq_some_iff.mp hy).1, ?_⟩
        rw [g1, pz_getinj hn g2 hx]
    · exact Or.inl (h.2.2.1 i (by omega) hi)
/-- the begun ball -/
theorem bl_begin {cap i x : Nat} {G : List Nat} {fa re : Nat → Int32} {wy : Nat → Int64} (hG : G.Nodup) (hc : G.length ≤ cap) (hi : G[i]? = some x) (hf : ∀ j, j < cap → fa j = -1) : bl_ok cap G (pz_S0 x) (upd fa i (nI 0)) (vp_updL (vp_updL wy i 0) i 1) (upd re 0 (nI i)) := by
  refine ⟨(pz_inv_0 (fun _ => []) x).1, fun j y hy => ?_, fun j hj hjc => ?_, fun j y hy => ?_⟩
  · have hjl := (List.getElem?_eq_some_iff.mp hy).1
    show upd fa i (nI 0) j = bl_fo (pz_up (fun _ => none) x (some 0) y) ∧ (pz_up (fun _ => none) x (some 0) y ≠ none → vp_updL (vp_updL wy i 0) i 1 j = pz_up (fun _ => 0) x 1 y)
    by_cases e : j = i
    · subst e
      have : y = x := Option.some.inj (hy.symm.trans hi)
      subst this
      rw [pk_us, pz_up_s, pk_uLs, pz_up_s]
      exact ⟨rfl, fun _ => rfl⟩
    · have hne : y ≠ x := fun q => e (by subst q; exact pz_getinj hG hy hi)
      rw [pk_un e, pz_up_n _ _ hne]
      exact ⟨hf j (by omega), fun q => absurd rfl q⟩
  · have hil := (List.getElem?_eq_some_iff.mp hi).1
    rw [pk_un (by omega)]
    exact hf j hjc
  · have hy : [x][j]? = some y := hy
    have hj : j < 1 := (List.getElem?_eq_some_iff.mp hy).1
    have hj0 : j = 0 := by omega
    subst hj0
    have : y = x := (Option.some.inj hy).symm
    subst this
    rw [pk_us]
    exact ⟨i, rfl, hi⟩
/-- how many lie nearer than d: the first so many -/
def bl_cw (S : pz_S) (d m : Nat) : Prop := m ≤ S.1.length ∧ (∀ i x e, i < m → S.1[i]? = some x → S.2.1 x = some e → e < d) ∧ ∀ i x e, m ≤ i → S.1[i]? = some x → S.2.1 x = some e → d ≤ e
theorem bl_cw_ex {s : Nat → List Nat} {r N : Nat} {S : pz_S} (h : pz_inv s r N S) (d : Nat) : ∃ m, bl_cw S d m := by
  have key : ∀ q, q ≤ S.1.length → ∃ m, m ≤ q ∧ (∀ i x e, i < m → S.1[i]? = some x → S.2.1 x = some e → e < d) ∧ ∀ i x e, m ≤ i → i < q → S.1[i]? = some x → S.2.1 x = some e → d ≤ e := by
    intro q
    induction q with
    | zero => intro _; exact ⟨0, Nat.le_refl 0, fun i x e hi => by omega, fun i x e _ hi => by omega⟩
    | succ q ih =>
      intro hq
      obtain ⟨m, h1, h2, h3⟩ := ih (by omega)
      have hx := List.getElem?_eq_getElem (show q < S.1.length by omega)
      obtain ⟨e, he⟩ := pz_mem_far h.1 (List.mem_of_getElem? hx)
      by_cases c : e < d
      · refine ⟨q + 1, Nat.le_refl _, fun i x f hi hx' hf => ?_, fun i x f hi hi2 => by omega⟩
        have := h.2.2.2.1 i q x _ f e (by omega) hx' hx hf he
        omega
      · refine ⟨m, by omega, h2, fun i x f hi hi2 hx' hf => ?_⟩
        by_cases z : i = q
        · subst z
          have : x = S.1[i] := Option.some.inj (hx'.symm.trans hx)
          subst this
          have := Option.some.inj (hf.symm.trans he)
          omega
        · exact h3 i x f hi (by omega) hx' hf
  obtain ⟨m, h1, h2, h3⟩ := key S.1.length (Nat.le_refl _)
  exact ⟨m, h1, h2, fun i x e hi hx he => h3 i x e hi (List.getElem?_eq_some_iff.mp hx).1 hx he⟩
end
section
/-! PURE: steps of a measure, as a ball goes out -/
/-- how often a step may do move o -/
def bl_mt (me : Int32) (od : Nat → Nat) (o : Nat) : Nat := if me = 0 then 1 else od o - 1
/-- one move, forward (fw 0) or undone (fw 6) -/
def bl_g (n fw : Nat) (sg tu : Nat → Nat → Nat) (o : Nat) : Nat → Nat := pz_act n (gq_in sg tu (fw + o))
/-- where the steps lead -/
def bl_s (n k fw : Nat) (sg tu : Nat → Nat → Nat) (od : Nat → Nat) (me : Int32) (x : Nat) : List Nat := pz_st (bl_g n fw sg tu) (bl_mt me od) k x
theorem bl_mt_eq {n k o : Nat} {me : Int32} {f : Nat → Int32} {M : Nat → Nat → Int32} {sg tu : Nat → Nat → Nat} {od : Nat → Nat} (h : mv_ok n k f M sg tu od) (ho : o < k) : (if me = 0 then nI 1 else f o - nI 1) = nI (bl_mt me od o) := by
  unfold bl_mt
  by_cases e : me = 0
  · rw [if_pos e, if_pos e]
  · rw [if_neg e, if_neg e, (h o ho).2.2.1, pk_sub (h o ho).2.1.1]
theorem bl_mt_le {n k o : Nat} {me : Int32} {f : Nat → Int32} {M : Nat → Nat → Int32} {sg tu : Nat → Nat → Nat} {od : Nat → Nat} (h : mv_ok n k f M sg tu od) (ho : o < k) : bl_mt me od o ≤ 14 := by
  unfold bl_mt
  by_cases e : me = 0
  · rw [if_pos e]; omega
  · rw [if_neg e]; have := (h o ho).2.1.2.1; omega
theorem bl_way {k fw o : Nat} (hk : k ≤ 6) (hf : fw = 0 ∨ fw = 6) (ho : o < k) : gq_way k (fw + o) := by
  unfold gq_way
  rcases hf with h | h <;> subst h <;> omega
theorem pz_take_keep {d e x c : Nat} {S : pz_S} (hx : S.2.1 x = some e) : (pz_take d S c).2.1 x = some e ∧ (pz_take d S c).2.2 x = S.2.2 x := by
  unfold pz_take
  by_cases h : S.2.1 c = none
  · rw [if_pos h]
    have hne : x ≠ c := fun q => by rw [q, h] at hx; cases hx
    exact ⟨by show pz_up _ _ _ _ = _; rw [pz_up_n _ _ hne]; exact hx, by show pz_up _ _ _ _ = _; rw [pz_up_n _ _ hne]⟩
  · rw [if_neg h]; exact ⟨hx, rfl⟩
theorem pz_take_lt {d c m : Nat} {S : pz_S} (h : ∀ x e, S.2.1 x = some e → e < m) (hd : d < m) : ∀ x e, (pz_take d S c).2.1 x = some e → e < m := by
  intro x e hx
  rw [pz_take_2] at hx
  by_cases q : x = c ∧ S.2.1 c = none
  · rw [if_pos q] at hx; cases hx; exact hd
  · rw [if_neg q] at hx; exact h x e hx
theorem pz_tm_fold {g : Nat → Nat} {x t d : Nat} {w : Int64} {S : pz_S} : (pz_tm g x (t + 1)).foldl (pz_vis d w) S = pz_bump d w (pz_take d ((pz_tm g x t).foldl (pz_vis d w) S) (pz_it g (t + 1) x)) (pz_it g (t + 1) x) := by
  show (pz_tm g x t ++ [pz_it g (t + 1) x]).foldl (pz_vis d w) S = _
  rw [List.foldl_append]
  rfl
theorem pz_st_fold {g : Nat → Nat → Nat} {mt : Nat → Nat} {x o d : Nat} {w : Int64} {S : pz_S} : (pz_st g mt (o + 1) x).foldl (pz_vis d w) S = (pz_tm (g o) x (mt o)).foldl (pz_vis d w) ((pz_st g mt o x).foldl (pz_vis d w) S) := by
  show (pz_st g mt o x ++ pz_tm (g o) x (mt o)).foldl (pz_vis d w) S = _
  rw [List.foldl_append]
theorem pz_fold_keep {d e x : Nat} {w : Int64} : ∀ {l : List Nat} {S : pz_S}, S.2.1 x = some e → e ≠ d → (l.foldl (pz_vis d w) S).2.1 x = some e ∧ (l.foldl (pz_vis d w) S).2.2 x = S.2.2 x
  | [], _, h, _ => ⟨h, rfl⟩
  | c :: l, S, h, hne => by
    obtain ⟨h1, h2⟩ := pz_vis_keep (c := c) (w := w) h hne
    obtain ⟨h3, h4⟩ := pz_fold_keep (l := l) h1 hne
    exact ⟨h3, h4.trans h2⟩
theorem pz_fold_lt {d m : Nat} {w : Int64} : ∀ {l : List Nat} {S : pz_S}, (∀ x e, S.2.1 x = some e → e < m) → d < m → ∀ x e, (l.foldl (pz_vis d w) S).2.1 x = some e → e < m
  | [], _, h, _ => h
  | _ :: l, _, h, hd => pz_fold_lt (l := l) (pz_vis_lt h hd) hd
def bl_b (c : Bool) : Int32 := if c = true then nI 1 else nI 0
theorem pz_ball_lt {s : Nat → List Nat} {a n d : Nat} {cm : Bool} {S : pz_S} (h : pz_ball s a n d cm S) {m : Nat} (hm : d < m) : ∀ x e, S.2.1 x = some e → e < m := fun x e hx => Nat.lt_of_le_of_lt (pz_ball_le h hx) hm
theorem bl_cw_mono {S : pz_S} (hok : pz_ok S) {d m0 m1 : Nat} (h0 : bl_cw S d m0) (h1 : bl_cw S (d + 1) m1) : m0 ≤ m1 := by
  by_cases q : m0 ≤ m1
  · exact q
  · exfalso
    have hl : m1 < S.1.length := by have := h0.1; omega
    have hx := List.getElem?_eq_getElem hl
    obtain ⟨e, he⟩ := pz_mem_far hok (List.mem_of_getElem? hx)
    have a1 := h0.2.1 m1 _ e (by omega) hx he
    have a2 := h1.2.2 m1 _ e (Nat.le_refl _) hx he
    omega
end
section
/-! PURE: for the search -/
theorem pz_take_snoc {l : List Nat} {u x : Nat} (h : l[u]? = some x) : l.take (u + 1) = l.take u ++ [x] := by rw [List.take_succ, h]; rfl
theorem pz_sum_one (F : Nat → Nat) (x : Nat) : pz_sum F [x] = F x := by simp [pz_sum]
/-- a shortest row has no more steps than there are arrangements, less one -/
theorem pz_dist_len {s : Nat → List Nat} {n a0 a : Nat} (harr : ∀ x, pz_arr n a0 x → ∀ y, y ∈ s x → pz_arr n a0 y) (ha : pz_arr n a0 a) {g K : Nat} (h : pz_dist s a g K) : K < pz_fact n := by
  have hends : ∀ k x, x ∈ pz_ends s a k → pz_arr n a0 x := by
    intro k
    induction k with
    | zero => intro x hx; rw [List.mem_singleton.mp hx]; exact ha
    | succ k ih =>
      intro x hx
      obtain ⟨y, hy, hxy⟩ := List.mem_flatMap.mp hx
      exact harr y (ih y hy) x hxy
  have hmid : ∀ i, ∃ x, i ≤ K → pz_dist s a x i := by
    intro i
    by_cases hi : i ≤ K
    · have hK : K = i + (K - i) := by omega
      rw [hK] at h
      obtain ⟨x, h1, h2⟩ := pz_ends_mid h.1
      exact ⟨x, fun _ => (pz_dist_mid h h1 h2).1⟩
    · exact ⟨0, fun q => absurd q hi⟩
  have hf : ∃ f : Nat → Nat, ∀ i, i ≤ K → pz_dist s a (f i) i := ⟨fun i => Classical.choose (hmid i), fun i hi => Classical.choose_spec (hmid i) hi⟩
  obtain ⟨f, hf⟩ := hf
  have hnd : ((List.range (K + 1)).map f).Nodup := by
    rw [List.nodup_iff_pairwise_ne, List.pairwise_map]
    refine List.Pairwise.imp_of_mem ?_ List.nodup_range
    intro i j hi hj hij e
    have hi' := List.mem_range.mp hi
    have hj' := List.mem_range.mp hj
    have h1 := hf i (by omega)
    have h2 := hf j (by omega)
    rw [e] at h1
    exact hij (pz_dist_eq h1 h2)
  have := pz_arr_len (n := n) (a := a0) hnd (fun x hx => by
    obtain ⟨i, hi, rfl⟩ := List.mem_map.mp hx
    have hi' := List.mem_range.mp hi
    exact hends i _ (hf i (by omega)).1)
  rw [List.length_map, List.length_range] at this
  omega
theorem bl_s_arr {n k fw a0 : Nat} {me : Int32} {f : Nat → Int32} {M : Nat → Nat → Int32} {sg tu : Nat → Nat → Nat} {od : Nat → Nat} (h : mv_ok n k f M sg tu od) (hk : k ≤ 6) (hf : fw = 0 ∨ fw = 6) (x : Nat) (hx : pz_arr n a0 x) (y : Nat) (hy : y ∈ bl_s n k fw sg tu od me x) : pz_arr n a0 y := by
  obtain ⟨m, j, hm, -, -, rfl⟩ := pz_st_mem.mp hy
  have hp := gq_perm h (bl_way hk hf hm)
  clear hy
  induction j with
  | zero => exact hx
  | succ j ih => exact pz_arr_act hp ih
theorem bl_rev {n k : Nat} {me : Int32} {f : Nat → Int32} {M : Nat → Nat → Int32} {sg tu : Nat → Nat → Nat} {od : Nat → Nat} (h : mv_ok n k f M sg tu od) (hk : k ≤ 6) (u v : Nat) : pz_cnt v (bl_s n k 0 sg tu od me u) = pz_cnt u (bl_s n k 6 sg tu od me v) := by
  refine pz_st_rev (fun m hm c => ?_) (fun m hm c => ?_) u v
  · have hp := (h m hm).1
    unfold bl_g gq_in
    rw [if_neg (show ¬ 6 + m < 6 by omega), if_pos (show 0 + m < 6 by omega), show 6 + m - 6 = m by omega, Nat.zero_add]
    exact pz_act_inv hp c
  · have hp := (h m hm).1
    unfold bl_g gq_in
    rw [if_neg (show ¬ 6 + m < 6 by omega), if_pos (show 0 + m < 6 by omega), show 6 + m - 6 = m by omega, Nat.zero_add]
    exact pz_act_inv hp.symm c
theorem pz_fst_of {k : Nat} {mt : Nat → Nat} {P P' : Nat → Nat → Prop} (hP : ∀ m t, m < k → 0 < t → t ≤ mt m → (P m t ↔ P' m t)) {m t : Nat} (h : pz_fst k mt P m t) : pz_fst k mt P' m t := by
  obtain ⟨a1, a2, a3, a4, a5⟩ := h
  refine ⟨a1, a2, a3, (hP m t a1 a2 a3).mp a4, fun m' t' h1 h2 h3 q => a5 m' t' h1 h2 h3 ((hP m' t' ?_ h1 h2).mpr q)⟩
  rcases h3 with h3 | h3 <;> omega
/-- from a state on a shortest row: a step that leads nearer, and which steps lead nearer, by what the table knows -/
theorem bl_near {n k len i : Nat} {me : Int32} {sg tu : Nat → Nat → Nat} {od : Nat → Nat} (hrv : ∀ u v, pz_cnt v (bl_s n k 0 sg tu od me u) = pz_cnt u (bl_s n k 6 sg tu od me v)) {sa gl x : Nat} {T : pz_S} (hdist : pz_dist (bl_s n k 0 sg tu od me) sa gl len) (hTe : ∀ y e, T.2.1 y = some e → pz_dist (bl_s n k 6 sg tu od me) gl y e) (hTa : ∀ y f e, pz_dist (bl_s n k 0 sg tu od me) sa y f → pz_dist (bl_s n k 6 sg tu od me) gl y e → f + e = len → T.2.1 y = some e) (hi : i < len) (h1 : pz_dist (bl_s n k 0 sg tu od me) sa x i) (h2 : pz_dist (bl_s n k 6 sg tu od me) gl x (len - i)) :
    (∃ m t, m < k ∧ 0 < t ∧ t ≤ bl_mt me od m ∧ T.2.1 (pz_it (bl_g n 0 sg tu m) t x) = some (len - i - 1)) ∧ (∀ m t, m < k → 0 < t → t ≤ bl_mt me od m → (T.2.1 (pz_it (bl_g n 0 sg tu m) t x) = some (len - i - 1) ↔ pz_dist (bl_s n k 6 sg tu od me) gl (pz_it (bl_g n 0 sg tu m) t x) (len - i - 1))) ∧ (∀ y, y ∈ bl_s n k 0 sg tu od me x → pz_dist (bl_s n k 6 sg tu od me) gl y (len - i - 1) → pz_dist (bl_s n k 0 sg tu od me) sa y (i + 1)) := by
  have key : ∀ y, y ∈ bl_s n k 0 sg tu od me x → pz_dist (bl_s n k 6 sg tu od me) gl y (len - i - 1) → pz_dist (bl_s n k 0 sg tu od me) sa y (i + 1) := by
    intro y hy hd
    have hlen : pz_dist (bl_s n k 0 sg tu od me) sa gl (i + 1 + (len - i - 1)) := by rw [show i + 1 + (len - i - 1) = len by omega]; exact hdist
    exact (pz_dist_mid hlen (List.mem_flatMap.mpr ⟨x, h1.1, hy⟩) (pz_rev_mem (fun u v => (hrv v u).symm) hd.1)).1
  have hstep : ∀ m t, m < k → 0 < t → t ≤ bl_mt me od m → pz_it (bl_g n 0 sg tu m) t x ∈ bl_s n k 0 sg tu od me x := fun m t a1 a2 a3 => pz_st_mem.mpr ⟨m, t, a1, a2, a3, rfl⟩
  refine ⟨?_, fun m t a1 a2 a3 => ⟨fun q => hTe _ _ q, fun q => hTa _ (i + 1) _ (key _ (hstep m t a1 a2 a3) q) q (by omega)⟩, key⟩
  have h3 := pz_dist_rev (fun u v => (hrv v u).symm) h2
  obtain ⟨e, he⟩ : ∃ e, len - i = e + 1 := ⟨len - i - 1, by omega⟩
  rw [he] at h3
  have h4 := h3.1
  rw [pz_ends_1] at h4
  obtain ⟨y, hy, hgy⟩ := List.mem_flatMap.mp h4
  obtain ⟨m, t, a1, a2, a3, a4⟩ := pz_st_mem.mp hy
  have h5 : pz_dist (bl_s n k 0 sg tu od me) y gl e := by
    refine ⟨hgy, fun j hj hm => h3.2 (j + 1) (by omega) ?_⟩
    rw [pz_ends_1]
    exact List.mem_flatMap.mpr ⟨y, hy, hm⟩
  have h6 := pz_dist_rev hrv h5
  have he2 : len - i - 1 = e := by omega
  refine ⟨m, t, a1, a2, a3, ?_⟩
  rw [← a4, he2]
  exact hTa y (i + 1) e (key y hy (by rw [he2]; exact h6)) h6 (by omega)
end
section
/-! PURE: how often each label is there, in one number -/
def pz_tal (c : Nat) : Nat → Nat
  | 0 => 0
  | n + 1 => pz_tal c n + 16 ^ pz_dg c n
theorem pz_tal_sum (c : Nat) : ∀ n, pz_tal c n = pz_sum (fun d => 16 ^ d) (pz_digits n c)
  | 0 => rfl
  | n + 1 => by
    show pz_tal c n + 16 ^ pz_dg c n = _
    rw [pz_tal_sum c n]
    unfold pz_digits
    rw [List.range_succ, List.map_append, pz_sum_app]
    simp [pz_sum]
theorem pz_tal_lt (c : Nat) {n : Nat} (hn : n ≤ 8) : pz_tal c n ≤ n * 16 ^ 7 := by
  clear hn
  induction n with
  | zero => exact Nat.zero_le _
  | succ n ih =>
    have h1 : 16 ^ pz_dg c n ≤ 16 ^ 7 := Nat.pow_le_pow_right (by decide) (by have := pz_dg_lt c n; omega)
    show pz_tal c n + 16 ^ pz_dg c n ≤ _
    rw [Nat.succ_mul]
    exact Nat.add_le_add ih h1
theorem pz_sum_perm (f : Nat → Nat) {l l' : List Nat} (h : l.Perm l') : pz_sum f l = pz_sum f l' := by
  induction h with
  | nil => rfl
  | cons x _ ih => simp only [pz_sum, ih]
  | swap x y l => simp only [pz_sum]; omega
  | trans _ _ ih1 ih2 => exact ih1.trans ih2
theorem pz_cnt_count (c : Nat) : ∀ l : List Nat, pz_cnt c l = List.count c l
  | [] => rfl
  | x :: l => by
    show (if x = c then 1 else 0) + pz_cnt c l = _
    rw [pz_cnt_count c l, List.count_cons]
    by_cases e : x = c
    · subst e; simp; omega
    · simp [e]
/-- the labels from k on -/
def pz_tk (k : Nat) (l : List Nat) : Nat := pz_sum (fun d => if k ≤ d then 16 ^ (d - k) else 0) l
theorem pz_tk_s (k : Nat) : ∀ l : List Nat, pz_tk k l = pz_cnt k l + 16 * pz_tk (k + 1) l
  | [] => rfl
  | x :: l => by
    show (if k ≤ x then 16 ^ (x - k) else 0) + pz_tk k l = (if x = k then 1 else 0) + pz_cnt k l + 16 * ((if k + 1 ≤ x then 16 ^ (x - (k + 1)) else 0) + pz_tk (k + 1) l)
    rw [pz_tk_s k l]
    by_cases e : x = k
    · subst e
      rw [if_pos (Nat.le_refl _), if_pos rfl, if_neg (by omega), Nat.sub_self]
      omega
    · rw [if_neg e]
      by_cases h : k ≤ x
      · rw [if_pos h, if_pos (by omega), show x - k = x - (k + 1) + 1 by omega, Nat.pow_succ]
        omega
      · rw [if_neg h, if_neg (by omega)]
        omega
theorem pz_cnt_len (c : Nat) : ∀ l : List Nat, pz_cnt c l ≤ l.length
  | [] => Nat.le_refl _
  | x :: l => by
    show (if x = c then 1 else 0) + pz_cnt c l ≤ l.length + 1
    have := pz_cnt_len c l
    by_cases e : x = c
    · rw [if_pos e]; omega
    · rw [if_neg e]; omega
theorem pz_tk_cnt {l l' : List Nat} (hl : l.length ≤ 15) (hl' : l'.length ≤ 15) : ∀ k, pz_tk 0 l = pz_tk 0 l' → pz_tk k l = pz_tk k l' ∧ ∀ j, j < k → pz_cnt j l = pz_cnt j l'
  | 0, h => ⟨h, fun j hj => by omega⟩
  | k + 1, h => by
    obtain ⟨h1, h2⟩ := pz_tk_cnt hl hl' k h
    rw [pz_tk_s k l, pz_tk_s k l'] at h1
    have a1 := pz_cnt_len k l
    have a2 := pz_cnt_len k l'
    refine ⟨by omega, fun j hj => ?_⟩
    by_cases e : j = k
    · subst e; omega
    · exact h2 j (by omega)
theorem pz_tal_perm {n a c : Nat} (hn : n ≤ 8) (h : pz_tal a n = pz_tal c n) : (pz_digits n c).Perm (pz_digits n a) := by
  have e0 : ∀ l : List Nat, pz_tk 0 l = pz_sum (fun d => 16 ^ d) l := fun l => pz_sum_congr (fun d _ => by rw [if_pos (Nat.zero_le _), Nat.sub_zero])
  rw [pz_tal_sum, pz_tal_sum, ← e0, ← e0] at h
  rw [List.perm_iff_count]
  intro d
  rw [← pz_cnt_count, ← pz_cnt_count]
  exact ((pz_tk_cnt (by simp [pz_digits]; omega) (by simp [pz_digits]; omega) (d + 1) h).2 d (by omega)).symm
theorem pz_arr_tal {n a c : Nat} (h : pz_arr n a c) : pz_tal a n = pz_tal c n := by
  rw [pz_tal_sum, pz_tal_sum]
  exact (pz_sum_perm _ h.2).symm
theorem pz_ends_arr {s : Nat → List Nat} {n a0 a : Nat} (harr : ∀ x, pz_arr n a0 x → ∀ y, y ∈ s x → pz_arr n a0 y) (ha : pz_arr n a0 a) : ∀ k x, x ∈ pz_ends s a k → pz_arr n a0 x
  | 0, x, hx => by rw [List.mem_singleton.mp hx]; exact ha
  | k + 1, x, hx => by
    obtain ⟨y, hy, hxy⟩ := List.mem_flatMap.mp hx
    exact harr y (pz_ends_arr harr ha k y hy) x hxy
theorem pz_shl16 {d : Nat} (hd : d < 8) : nI 1 <<< (nI (4 * d) &&& 31) = nI (16 ^ d) := by
  rcases (show d = 0 ∨ d = 1 ∨ d = 2 ∨ d = 3 ∨ d = 4 ∨ d = 5 ∨ d = 6 ∨ d = 7 by omega) with h | h | h | h | h | h | h | h <;> subst h <;> decide
theorem nI_inj32 {a b : Nat} (ha : a < 2 ^ 32) (hb : b < 2 ^ 32) (h : nI a = nI b) : a = b := by
  rw [← pk_tn ha, ← pk_tn hb, h]
end
section
/-! PURE: the reference's own rows -/
def zm_ok (n k : Nat) (to fo : Nat → Int32) (sg tu : Nat → Nat → Nat) (od : Nat → Nat) : Prop := ∀ o, o < k → pz_perm n (sg o) (tu o) ∧ pz_od n (sg o) (od o) ∧ fo o = nI (od o) ∧ ∀ p, p < n → to (8 * o + p) = nI (sg o p)
def zs_ok (n : Nat) (sb : Nat → Int32) (sa : Nat) : Prop := sa < 8 ^ n ∧ ∀ p, p < n → sb p = nI (pz_dg sa p)
theorem zm_ok_add {n k : Nat} {to to' fo : Nat → Int32} {sg tu : Nat → Nat → Nat} {od : Nat → Nat} (hn : n ≤ 8) (h : zm_ok n k to fo sg tu od) (h1 : ∀ p, p < 8 → to' (8 * k + p) = nI p) (h2 : ∀ i, i < 8 * k → to' i = to i) : zm_ok n (k + 1) to' (upd fo k (nI 1)) (pz_up sg k (fun p => p)) (pz_up tu k (fun p => p)) (pz_up od k 1) := by
  intro o ho
  by_cases e : o = k
  · subst e
    rw [pz_up_s, pz_up_s, pz_up_s, pk_us]
    exact ⟨fun p hp => ⟨hp, hp, rfl, rfl⟩, pz_od_id n, rfl, fun p hp => h1 p (by omega)⟩
  · rw [pz_up_n _ _ e, pz_up_n _ _ e, pz_up_n _ _ e, pk_un e]
    obtain ⟨a1, a2, a3, a4⟩ := h o (by omega)
    exact ⟨a1, a2, a3, fun p hp => by rw [h2 _ (by omega)]; exact a4 p hp⟩
theorem zm_ok_len {n k mo x y o' : Nat} {to fo : Nat → Int32} {sg tu : Nat → Nat → Nat} {od : Nat → Nat} (hn : n ≤ 8) (h : zm_ok n k to fo sg tu od) (hm : mo < k) (hx : x < n) (hy : y < n) (hxy : x ≠ y) (hf : sg mo y = y) (ho : pz_od n (pz_cyc (sg mo) x y) o') : zm_ok n k (upd (upd to (8 * mo + y) (nI (sg mo x))) (8 * mo + x) (nI y)) (upd fo mo (nI o')) (pz_up sg mo (pz_cyc (sg mo) x y)) (pz_up tu mo (pz_cyi (sg mo) (tu mo) x y)) (pz_up od mo o') := by
  intro o hok
  obtain ⟨a1, a2, a3, a4⟩ := h o hok
  by_cases e : o = mo
  · subst e
    rw [pz_up_s, pz_up_s, pz_up_s, pk_us]
    refine ⟨pz_cyc_ok a1 hx hy hxy hf, ho, rfl, fun p hp => ?_⟩
    unfold pz_cyc
    by_cases e1 : p = x
    · subst e1; rw [pk_us, pz_up_n _ _ hxy, pz_up_s]
    · rw [pk_un (by omega)]
      by_cases e2 : p = y
      · subst e2; rw [pk_us, pz_up_s]
      · rw [pk_un (by omega), pz_up_n _ _ e2, pz_up_n _ _ e1]; exact a4 p hp
  · rw [pz_up_n _ _ e, pz_up_n _ _ e, pz_up_n _ _ e, pk_un e]
    refine ⟨a1, a2, a3, fun p hp => ?_⟩
    rw [pk_un (by omega), pk_un (by omega)]
    exact a4 p hp
theorem zs_mk_or {sa i : Nat} : pz_mk (pz_dg sa) i ||| pz_dg sa i * 8 ^ i = pz_mk (pz_dg sa) (i + 1) := by
  rw [pz_or_put ?_ (pz_dg_lt _ _)]
  · rfl
  · unfold pz_dg
    rw [Nat.div_eq_of_lt (pz_mk_lt (f := fun p => sa / 8 ^ p % 8) (fun p _ => Nat.mod_lt _ (by decide)))]
theorem zs_mk_all {n sa : Nat} (h : sa < 8 ^ n) : pz_mk (pz_dg sa) n = sa := by rw [pz_mk_dg, Nat.mod_eq_of_lt h]
theorem zs_mk_le {n sa : Nat} (hn : n ≤ 8) : ∀ i, i ≤ n → pz_mk (pz_dg sa) i < 2 ^ 24 := fun i hi => pz_lt31 (show i ≤ 8 by omega) (pz_mk_lt (fun p _ => pz_dg_lt _ _))
/-- undoing a move: the digits one by one -/
def zm_bb (n c i : Nat) (g : Nat → Nat) (B : Nat) : Prop := B < 8 ^ n ∧ ∀ x, x < n → pz_dg B x = if x < i then pz_dg c (g x) else 0
theorem zm_bb_0 (n c : Nat) (g : Nat → Nat) : zm_bb n c 0 g 0 := ⟨pz_p8 n, fun x _ => by rw [pz_dg_0, if_neg (by omega)]⟩
theorem zm_bb_z {n c i B : Nat} {g : Nat → Nat} (h : zm_bb n c i g B) (hi : i < n) : pz_dg B i = 0 := by rw [h.2 i hi, if_neg (by omega)]
theorem zm_bb_s {n c i B : Nat} {g : Nat → Nat} (h : zm_bb n c i g B) (hi : i < n) : zm_bb n c (i + 1) g (B + pz_dg c (g i) * 8 ^ i) := by
  have h0 := zm_bb_z h hi
  refine ⟨pz_put_lt h.1 h0 (pz_dg_lt _ _) hi, fun x hx => ?_⟩
  rw [pz_dg_put h0 (pz_dg_lt _ _)]
  by_cases e : x = i
  · rw [if_pos e, e, if_pos (by omega)]
  · rw [if_neg e, h.2 x hx]
    by_cases q : x < i
    · rw [if_pos q, if_pos (by omega)]
    · rw [if_neg q, if_neg (by omega)]
theorem zm_bb_e {n c B : Nat} {g : Nat → Nat} (h : zm_bb n c n g B) (hc : c < 8 ^ n) : B = pz_act n g c := by
  refine pz_ext h.1 (pz_act_lt hc) (fun x hx => ?_)
  rw [h.2 x hx, if_pos hx, pz_act_dg hc hx]
theorem zm_or {n c i B : Nat} {g : Nat → Nat} (h : zm_bb n c i g B) (hi : i < n) : nI B ||| nI (pz_dg c (g i) * 8 ^ i) = nI (B + pz_dg c (g i) * 8 ^ i) := by
  rw [pz_nI_or, pz_or_put (zm_bb_z h hi) (pz_dg_lt _ _)]
/-- the reference's hash -/
def zh_hh (c : Nat) : Nat := (nI c * nI 40503).toBitVec.toNat / 2 ^ 7 % 65536
theorem zh_lt (c : Nat) : zh_hh c < 65536 := Nat.mod_lt _ (by decide)
theorem zh_ush (c : Nat) : ((nI c * nI 40503).toUInt32 >>> ((nI 7).toUInt32 &&& Int32.toUInt32 31)).toInt32 = nI ((nI c * nI 40503).toBitVec.toNat / 2 ^ 7) := pz_ushrX _ _ 7 (by decide)
theorem zh_small (c : Nat) : (nI c * nI 40503).toBitVec.toNat / 2 ^ 7 < 2 ^ 31 := by
  have := (nI c * nI 40503).toBitVec.isLt
  rw [Nat.div_lt_iff_lt_mul (by decide)]
  omega
theorem zh_rem (c : Nat) : nI ((nI c * nI 40503).toBitVec.toNat / 2 ^ 7) - nI ((nI c * nI 40503).toBitVec.toNat / 2 ^ 7) / nI 65536 * nI 65536 = nI ((zh_hh c + 0) % 65536) := by
  rw [pk_rem (zh_small c) (by decide) (by decide), Nat.add_zero, Nat.mod_eq_of_lt (zh_lt c)]
  rfl
theorem zh_next (a j : Nat) : nI ((a + j) % 65536 + 1) - nI ((a + j) % 65536 + 1) / nI 65536 * nI 65536 = nI ((a + (j + 1)) % 65536) := by
  have h2 : (a + j) % 65536 < 65536 := Nat.mod_lt _ (by decide)
  rw [pk_rem (by omega) (by decide) (by decide), pz_next 65536 a j]
/-- the reference's table -/
def zb_ok (S : pz_S) (st sp : Nat → Int32) (wy : Nat → Int64) (se : Nat → Int32) : Prop :=
  pz_ok S ∧ (∀ i x, S.1[i]? = some x → st i = nI x ∧ (∃ d, S.2.1 x = some d ∧ sp i = nI d) ∧ wy i = S.2.2 x) ∧ ∃ s : Nat → Nat, (∀ j, j < 65536 → se j = nI (s j)) ∧ pz_ht 65536 zh_hh S.1 s
theorem zb_take {d c j : Nat} {S : pz_S} {st sp se : Nat → Int32} {wy : Nat → Int64} {s : Nat → Nat} (h : zb_ok S st sp wy se) (hs : ∀ j, j < 65536 → se j = nI (s j)) (ht : pz_ht 65536 zh_hh S.1 s) (hc : S.2.1 c = none) (hj : j < 65536) (h0 : s ((zh_hh c + j) % 65536) = 0) (hl : ∀ j', j' < j → ¬ pz_stop 65536 zh_hh S.1 s c j') : zb_ok (pz_take d S c) (upd st S.1.length (nI c)) (upd sp S.1.length (nI d)) (vp_updL wy S.1.length 0) (upd se ((zh_hh c + j) % 65536) (nI (S.1.length + 1))) := by
  have hT : pz_take d S c = (S.1 ++ [c], pz_up S.2.1 c (some d), pz_up S.2.2 c 0) := if_pos hc
  refine ⟨pz_take_ok h.1, fun i x hx => ?_, pz_up s ((zh_hh c + j) % 65536) (S.1.length + 1), fun i hi => ?_, ?_⟩
  · rw [hT] at hx ⊢
    show upd st S.1.length (nI c) i = nI x ∧ (∃ d9, pz_up S.2.1 c (some d) x = some d9 ∧ upd sp S.1.length (nI d) i = nI d9) ∧ vp_updL wy S.1.length 0 i = pz_up S.2.2 c 0 x
    have hx : (S.1 ++ [c])[i]? = some x := hx
    by_cases e : i = S.1.length
    · subst e
      rw [List.getElem?_append_right (Nat.le_refl _), Nat.sub_self] at hx
      have : x = c := (Option.some.inj hx).symm
      subst this
      rw [pk_us, pk_us, pk_uLs, pz_up_s, pz_up_s]
      exact ⟨rfl, ⟨d, rfl, rfl⟩, rfl⟩
    · have hl := (List.getElem?_eq_some_iff.mp hx).1
      rw [List.length_append, List.length_singleton] at hl
      rw [List.getElem?_append_left (by omega)] at hx
      have hne : x ≠ c := fun q => by
        have := (h.1.2 x).mp (List.mem_of_getElem? hx)
        rw [q] at this; exact this hc
      rw [pk_un e, pk_un e, pk_uLn e, pz_up_n _ _ hne, pz_up_n _ _ hne]
      exact h.2.1 i x hx
  · by_cases e : i = (zh_hh c + j) % 65536
    · subst e; rw [pk_us, pz_up_s]
    · rw [pk_un e, pz_up_n _ _ e]; exact hs i hi
  · rw [hT]
    exact pz_ht_put ht (by decide) hj h0 hl
theorem zb_bump {d j x : Nat} {w : Int64} {S : pz_S} {st sp se : Nat → Int32} {wy : Nat → Int64} (h : zb_ok S st sp wy se) (hj : S.1[j]? = some x) (hx : S.2.1 x = some d) : zb_ok (pz_bump d w S x) st sp (vp_updL wy j (wy j + w)) se := by
  have hT : pz_bump d w S x = (S.1, S.2.1, pz_up S.2.2 x (S.2.2 x + w)) := if_pos hx
  rw [hT]
  refine ⟨h.1, fun i y hy => ?_, h.2.2⟩
  obtain ⟨h1, h2, h3⟩ := h.2.1 i y hy
  refine ⟨h1, h2, ?_⟩
  show vp_updL wy j (wy j + w) i = pz_up S.2.2 x (S.2.2 x + w) y
  by_cases e : i = j
  · subst e
    have : y = x := Option.some.inj (hy.symm.trans hj)
    subst this
    rw [pk_uLs, pz_up_s, h3]
  · have hne : y ≠ x := fun q => e (by subst q; exact pz_getinj h.1.1 hy hj)
    rw [pk_uLn e, pz_up_n _ _ hne]
    exact h3
theorem zb_far {S : pz_S} {st sp se : Nat → Int32} {wy : Nat → Int64} (h : zb_ok S st sp wy se) {i x d : Nat} (hi : S.1[i]? = some x) (hd : S.2.1 x = some d) : sp i = nI d := by
  obtain ⟨d', h1, h2⟩ := (h.2.1 i x hi).2.1
  rw [h2, Option.some.inj (h1.symm.trans hd)]
end
section
/-! WRAP: worlds in groups of cells; contracts over them; calls; rows of places counted by naturals -/
abbrev wz_G : Type := List va_W
theorem wz_get_flat : ∀ {gs : wz_G} {gi k : Nat} {g : va_W} {c : Nat × va_E}, gs[gi]? = some g → g[k]? = some c → gs.flatten[(gs.take gi).flatten.length + k]? = some c
  | [], gi, k, g, c, h, _ => by simp at h
  | g0 :: gs, 0, k, g, c, h, hk => by
    have e : g0 = g := by simpa using h
    subst e
    simp only [List.take_zero, List.flatten_nil, List.length_nil, Nat.zero_add, List.flatten_cons]
    rw [List.getElem?_append_left (List.getElem?_eq_some_iff.mp hk).1]
    exact hk
  | g0 :: gs, gi + 1, k, g, c, h, hk => by
    have h' : gs[gi]? = some g := by simpa using h
    have ih := wz_get_flat h' hk
    simp only [List.take_succ_cons, List.flatten_cons, List.length_append]
    rw [List.getElem?_append_right (by omega), show g0.length + (gs.take gi).flatten.length + k - g0.length = (gs.take gi).flatten.length + k by omega]
    exact ih
theorem wz_set_flat : ∀ {gs : wz_G} {gi k : Nat} {g : va_W} (c : Nat × va_E), gs[gi]? = some g → k < g.length → gs.flatten.set ((gs.take gi).flatten.length + k) c = (gs.set gi (g.set k c)).flatten
  | [], gi, k, g, c, h, _ => by simp at h
  | g0 :: gs, 0, k, g, c, h, hk => by
    have e : g0 = g := by simpa using h
    subst e
    simp only [List.take_zero, List.flatten_nil, List.length_nil, Nat.zero_add, List.flatten_cons, List.set_cons_zero]
    rw [List.set_append_left _ _ hk]
  | g0 :: gs, gi + 1, k, g, c, h, hk => by
    have h' : gs[gi]? = some g := by simpa using h
    have ih := wz_set_flat c h' hk
    simp only [List.take_succ_cons, List.flatten_cons, List.length_append, List.set_cons_succ]
    rw [List.set_append_right _ _ (by omega), show g0.length + (gs.take gi).flatten.length + k - g0.length = (gs.take gi).flatten.length + k by omega, ih]
theorem wz_P_mem {D : va_G} {cl : List vw_C} {ws : va_W} {H : Heap} : va_P D cl ws H ↔ ∀ q, q ∈ ws → va_at D cl q H := by
  constructor
  · intro h q hq
    obtain ⟨k, hk⟩ := List.getElem?_of_mem hq
    exact h k q hk
  · intro h k q hk
    exact h q (List.mem_of_getElem? hk)
theorem wz_D_nd {A : Nat → Prop} {ws : va_W} : va_D A ws ↔ (ws.map Prod.fst).Nodup ∧ ∀ q, q ∈ ws → A q.1 := by
  constructor
  · rintro ⟨h1, h2⟩
    refine ⟨?_, fun q hq => ?_⟩
    · rw [List.nodup_iff_pairwise_ne, List.pairwise_map, List.pairwise_iff_getElem]
      intro i j hi hj hij e
      have := h1 i j _ _ (List.getElem?_eq_getElem hi) (List.getElem?_eq_getElem hj) e
      omega
    · obtain ⟨k, hk⟩ := List.getElem?_of_mem hq
      exact h2 k q hk
  · rintro ⟨h1, h2⟩
    refine ⟨fun i j p q hp hq e => ?_, fun k q hk => h2 q (List.mem_of_getElem? hk)⟩
    have hi := (List.getElem?_eq_some_iff.mp hp).1
    have h3 : (ws.map Prod.fst)[i]? = (ws.map Prod.fst)[j]? := by
      rw [List.getElem?_map, List.getElem?_map, hp, hq]
      simp [e]
    exact (List.getElem?_inj (by rw [List.length_map]; exact hi) h1).mp h3
theorem wz_P_perm {D : va_G} {cl : List vw_C} {ws ws' : va_W} {H : Heap} (p : ws.Perm ws') (h : va_P D cl ws H) : va_P D cl ws' H :=
  wz_P_mem.mpr (fun q hq => wz_P_mem.mp h q (p.mem_iff.mpr hq))
theorem wz_D_perm {A : Nat → Prop} {ws ws' : va_W} (p : ws.Perm ws') (h : va_D A ws) : va_D A ws' := by
  obtain ⟨h1, h2⟩ := wz_D_nd.mp h
  exact wz_D_nd.mpr ⟨(p.map Prod.fst).nodup_iff.mp h1, fun q hq => h2 q (p.mem_iff.mpr hq)⟩
theorem wz_range_map {α : Type} (l : List α) : (List.range l.length).map (fun i => l[i]?) = l.map some := by
  apply List.ext_getElem?
  intro i
  rw [List.getElem?_map, List.getElem?_map]
  by_cases h : i < l.length
  · rw [List.getElem?_range h]
    simp [h]
  · rw [List.getElem?_eq_none (by rw [List.length_range]; omega), List.getElem?_eq_none (by omega)]
    rfl
theorem wz_perm_of {gs gs' : wz_G} {n : Nat} (is : List Nat) (hn : gs.length = n) (hp : is.Perm (List.range n)) (h : is.map (fun i => gs[i]?) = gs'.map some) : gs.Perm gs' := by
  subst hn
  have h1 : (is.map (fun i => gs[i]?)).Perm (gs.map some) := by rw [← wz_range_map gs]; exact hp.map _
  rw [h] at h1
  have h2 := h1.filterMap id
  rw [List.filterMap_map, List.filterMap_map] at h2
  have e : ∀ l : wz_G, List.filterMap (id ∘ some) l = l := fun l => by
    induction l with
    | nil => rfl
    | cons x l ih => simp [ih]
  rw [e, e] at h2
  exact h2.symm
/-- the world in another order of its groups -/
theorem wz_ord {D : va_G} {cl : List vw_C} {A : Nat → Prop} {gs gs' : wz_G} {H : Heap} {n : Nat} (is : List Nat) (hn : gs.length = n) (hp : is.Perm (List.range n)) (h : is.map (fun i => gs[i]?) = gs'.map some) (hP : va_P D cl gs.flatten H) (hD : va_D A gs.flatten) : va_P D cl gs'.flatten H ∧ va_D A gs'.flatten :=
  ⟨wz_P_perm (wz_perm_of is hn hp h).flatten hP, wz_D_perm (wz_perm_of is hn hp h).flatten hD⟩
theorem wz_D_left {A : Nat → Prop} {u v : va_W} (h : va_D A (u ++ v)) : va_D A u := by
  obtain ⟨h1, h2⟩ := wz_D_nd.mp h
  rw [List.map_append] at h1
  exact wz_D_nd.mpr ⟨(List.nodup_append.mp h1).1, fun q hq => h2 q (List.mem_append_left _ hq)⟩
theorem wz_P_left {D : va_G} {cl : List vw_C} {u v : va_W} {H : Heap} (h : va_P D cl (u ++ v) H) : va_P D cl u H := wz_P_mem.mpr (fun q hq => wz_P_mem.mp h q (List.mem_append_left _ hq))
/-- behind a call: what came back beside what stayed -/
theorem wz_join {D : va_G} {cl : List vw_C} {A0 : Nat → Prop} {u v u' : va_W} {H H1 : Heap} (hP : va_P D cl (u ++ v) H) (hD : va_D A0 (u ++ v)) (hk : ∀ q : Nat, q < H.size → ¬ va_A u H.size q → H1[q]? = H[q]?) (hF : ∀ q, va_A u H.size q → A0 q) (hP1 : va_P D cl u' H1) (hD1 : va_D (va_A u H.size) u') : va_P D cl (u' ++ v) H1 ∧ va_D A0 (u' ++ v) := by
  obtain ⟨d1, d2⟩ := wz_D_nd.mp hD
  obtain ⟨e1, e2⟩ := wz_D_nd.mp hD1
  rw [List.map_append, List.nodup_append] at d1
  have out : ∀ q, q ∈ v → q.1 < H.size ∧ ¬ va_A u H.size q.1 := by
    intro q hq
    have hl := (wz_P_mem.mp hP q (List.mem_append_right _ hq)).lt
    refine ⟨hl, fun h => ?_⟩
    rcases h with ⟨k, e, h⟩ | h
    · exact d1.2.2 q.1 (List.mem_map.mpr ⟨_, List.mem_of_getElem? h, rfl⟩) q.1 (List.mem_map.mpr ⟨q, hq, rfl⟩) rfl
    · omega
  refine ⟨wz_P_mem.mpr (fun q hq => ?_), wz_D_nd.mpr ⟨?_, fun q hq => ?_⟩⟩
  · rcases List.mem_append.mp hq with h | h
    · exact wz_P_mem.mp hP1 q h
    · exact (wz_P_mem.mp hP q (List.mem_append_right _ h)).kept (hk q.1 (out q h).1 (out q h).2)
  · rw [List.map_append, List.nodup_append]
    refine ⟨e1, d1.2.1, fun a ha b hb e => ?_⟩
    obtain ⟨x, hx, rfl⟩ := List.mem_map.mp ha
    obtain ⟨y, hy, rfl⟩ := List.mem_map.mp hb
    exact (out y hy).2 (by rw [← e]; exact e2 x hx)
  · rcases List.mem_append.mp hq with h | h
    · exact hF _ (e2 q h)
    · exact d2 q (List.mem_append_right _ h)
/-- rows of cells, one for each number below n -/
def wz_rows (n : Nat) (r : Nat → Nat) (e : Nat → va_E) : va_W := (List.range n).map (fun i => (r i, e i))
theorem wz_rows_get {n i : Nat} {r : Nat → Nat} {e : Nat → va_E} (h : i < n) : (wz_rows n r e)[i]? = some (r i, e i) := by
  simp [wz_rows, h]
theorem wz_rows_len (n : Nat) (r : Nat → Nat) (e : Nat → va_E) : (wz_rows n r e).length = n := by simp [wz_rows]
theorem wz_rows_set {n i : Nat} {r : Nat → Nat} {e : Nat → va_E} (v : va_E) : (wz_rows n r e).set i (r i, v) = wz_rows n r (pz_up e i v) := by
  apply List.ext_getElem?
  intro j
  rw [List.getElem?_set]
  by_cases hij : i = j
  · subst hij
    rw [if_pos rfl]
    by_cases h : i < n
    · rw [if_pos (by rw [wz_rows_len]; exact h), wz_rows_get h, pz_up_s]
    · rw [if_neg (by rw [wz_rows_len]; exact h)]
      simp [wz_rows, h]
  · rw [if_neg hij]
    by_cases h : j < n
    · rw [wz_rows_get h, wz_rows_get h, pz_up_n _ _ (fun q => hij q.symm)]
    · simp [wz_rows, h]
theorem wz_rows_congr {n : Nat} {r : Nat → Nat} {e e' : Nat → va_E} (h : ∀ i, i < n → e i = e' i) : wz_rows n r e = wz_rows n r e' := by
  refine List.map_congr_left (fun i hi => ?_)
  rw [h i (List.mem_range.mp hi)]
/-! links between mates of a nest -/
def wz_isN : Cond → Bool
  | .fieldLinkNest .. => true
  | .methodLinkNest .. => true
  | _ => false
def wz_N (L : List Cond) (U : State) : Prop := ∀ w, w ∈ L → va_Nw w U
theorem wz_N.warm {L : List Cond} (hL : L.all wz_isN = true) {s U : State} (hW : s.WarmedH U.vm) (h : wz_N L s) : wz_N L U := by
  intro w hw
  have h1 := List.all_eq_true.mp hL w hw
  have h2 := h w hw
  cases w with
  | fieldLinkNest a i b n d k => exact va_Nw.warmF hW h2
  | methodLinkNest a i x k => exact va_Nw.warmM hW h2
  | _ => simp [wz_isN] at h1
theorem wz_N.same {L : List Cond} (hL : L.all wz_isN = true) {u U : State} (h : u.vm = U.vm) (hN : wz_N L u) : wz_N L U := by
  intro w hw
  have h1 := List.all_eq_true.mp hL w hw
  have h2 := hN w hw
  cases w with
  | fieldLinkNest a i b n d k => exact va_Nw.same rfl h h2
  | methodLinkNest a i x k => exact va_Nw.same rfl h h2
  | _ => simp [wz_isN] at h1
end
section
-- ===== PART A: goes FIRST, ahead of the names: the tables' words, and 'selects' of the private methods out of them =====
/-- a private method of a class that the tables say can be made, by its rows of tables_1 -/
def lw_okq (q : MethodName × Nat) : Prop := (q.1.cls ≠ "java/lang/invoke/MethodHandle" ∧ q.1.cls ≠ "java/lang/invoke/VarHandle") ∧ Cond.instantiable q.1.cls q.2 ∈ tables_1 ∧ Cond.privateMethod q.1 ∈ tables_1 ∧ Cond.instanceMethod q.1 ∈ tables_1
theorem lw_p0 : lw_okq (⟨"TwoEndSearch$Moves", "aim", "(III)V"⟩, 4) := ⟨⟨by decide +kernel, by decide +kernel⟩, List.mem_of_getElem? (i := 24) (by decide +kernel), List.mem_of_getElem? (i := 76) (by decide +kernel), List.mem_of_getElem? (i := 77) (by decide +kernel)⟩
theorem lw_p1 : lw_okq (⟨"TwoEndSearch", "forgetAll", "()V"⟩, 5) := ⟨⟨by decide +kernel, by decide +kernel⟩, List.mem_of_getElem? (i := 10) (by decide +kernel), List.mem_of_getElem? (i := 80) (by decide +kernel), List.mem_of_getElem? (i := 81) (by decide +kernel)⟩
theorem lw_p2 : lw_okq (⟨"TwoEndSearch$Moves", "isPlace", "(I)Z"⟩, 4) := ⟨⟨by decide +kernel, by decide +kernel⟩, List.mem_of_getElem? (i := 24) (by decide +kernel), List.mem_of_getElem? (i := 100) (by decide +kernel), List.mem_of_getElem? (i := 101) (by decide +kernel)⟩
theorem lw_p3 : lw_okq (⟨"TwoEndSearch$Moves", "countOrder", "(I)I"⟩, 4) := ⟨⟨by decide +kernel, by decide +kernel⟩, List.mem_of_getElem? (i := 24) (by decide +kernel), List.mem_of_getElem? (i := 104) (by decide +kernel), List.mem_of_getElem? (i := 105) (by decide +kernel)⟩
theorem lw_p4 : lw_okq (⟨"TwoEndSearch", "forgetFound", "()V"⟩, 5) := ⟨⟨by decide +kernel, by decide +kernel⟩, List.mem_of_getElem? (i := 10) (by decide +kernel), List.mem_of_getElem? (i := 129) (by decide +kernel), List.mem_of_getElem? (i := 130) (by decide +kernel)⟩
theorem lw_p5 : lw_okq (⟨"TwoEndSearch", "begunSearch", "()LTwoEndSearch$Search;"⟩, 5) := ⟨⟨by decide +kernel, by decide +kernel⟩, List.mem_of_getElem? (i := 10) (by decide +kernel), List.mem_of_getElem? (i := 140) (by decide +kernel), List.mem_of_getElem? (i := 141) (by decide +kernel)⟩
theorem lw_p6 : lw_okq (⟨"TwoEndSearch$Graph", "slotOf", "(I)I"⟩, 6) := ⟨⟨by decide +kernel, by decide +kernel⟩, List.mem_of_getElem? (i := 153) (by decide +kernel), List.mem_of_getElem? (i := 282) (by decide +kernel), List.mem_of_getElem? (i := 283) (by decide +kernel)⟩
theorem lw_p7 : lw_okq (⟨"TwoEndSearch$Search", "meet", "(LTwoEndSearch$Ball;I)I"⟩, 12) := ⟨⟨by decide +kernel, by decide +kernel⟩, List.mem_of_getElem? (i := 144) (by decide +kernel), List.mem_of_getElem? (i := 311) (by decide +kernel), List.mem_of_getElem? (i := 312) (by decide +kernel)⟩
theorem lw_p8 : lw_okq (⟨"TwoEndSearch$Ball", "reachFrom", "(II)V"⟩, 11) := ⟨⟨by decide +kernel, by decide +kernel⟩, List.mem_of_getElem? (i := 180) (by decide +kernel), List.mem_of_getElem? (i := 327) (by decide +kernel), List.mem_of_getElem? (i := 328) (by decide +kernel)⟩
theorem lw_p9 : lw_okq (⟨"TwoEndSearch$Search", "waysThroughMeeting", "(LTwoEndSearch$Ball;)J"⟩, 12) := ⟨⟨by decide +kernel, by decide +kernel⟩, List.mem_of_getElem? (i := 144) (by decide +kernel), List.mem_of_getElem? (i := 341) (by decide +kernel), List.mem_of_getElem? (i := 342) (by decide +kernel)⟩
theorem lw_p10 : lw_okq (⟨"TwoEndSearch$Search", "leadBackToStart", "(LTwoEndSearch$Ball;)V"⟩, 12) := ⟨⟨by decide +kernel, by decide +kernel⟩, List.mem_of_getElem? (i := 144) (by decide +kernel), List.mem_of_getElem? (i := 345) (by decide +kernel), List.mem_of_getElem? (i := 346) (by decide +kernel)⟩
theorem lw_p11 : lw_okq (⟨"TwoEndSearch$Search", "leadBackFrom", "(IILTwoEndSearch$Ball;)V"⟩, 12) := ⟨⟨by decide +kernel, by decide +kernel⟩, List.mem_of_getElem? (i := 144) (by decide +kernel), List.mem_of_getElem? (i := 349) (by decide +kernel), List.mem_of_getElem? (i := 350) (by decide +kernel)⟩
theorem lw_p12 : lw_okq (⟨"TwoEndSearch$Search", "walkLeastRow", "()V"⟩, 12) := ⟨⟨by decide +kernel, by decide +kernel⟩, List.mem_of_getElem? (i := 144) (by decide +kernel), List.mem_of_getElem? (i := 356) (by decide +kernel), List.mem_of_getElem? (i := 357) (by decide +kernel)⟩
theorem lw_p13 : lw_okq (⟨"TwoEndSearch$Search", "leastStep", "(II)I"⟩, 12) := ⟨⟨by decide +kernel, by decide +kernel⟩, List.mem_of_getElem? (i := 144) (by decide +kernel), List.mem_of_getElem? (i := 360) (by decide +kernel), List.mem_of_getElem? (i := 361) (by decide +kernel)⟩
theorem lw_p14 : lw_okq (⟨"TwoEndSearch$Search", "afterStep", "(II)I"⟩, 12) := ⟨⟨by decide +kernel, by decide +kernel⟩, List.mem_of_getElem? (i := 144) (by decide +kernel), List.mem_of_getElem? (i := 364) (by decide +kernel), List.mem_of_getElem? (i := 365) (by decide +kernel)⟩
theorem lw_p15 : lw_okq (⟨"TwoEndSearch$Ball", "countWithin", "(I)I"⟩, 11) := ⟨⟨by decide +kernel, by decide +kernel⟩, List.mem_of_getElem? (i := 180) (by decide +kernel), List.mem_of_getElem? (i := 390) (by decide +kernel), List.mem_of_getElem? (i := 391) (by decide +kernel)⟩
def lw_privs_1 : List (MethodName × Nat) := [(⟨"TwoEndSearch$Moves", "aim", "(III)V"⟩, 4), (⟨"TwoEndSearch", "forgetAll", "()V"⟩, 5), (⟨"TwoEndSearch$Moves", "isPlace", "(I)Z"⟩, 4), (⟨"TwoEndSearch$Moves", "countOrder", "(I)I"⟩, 4), (⟨"TwoEndSearch", "forgetFound", "()V"⟩, 5), (⟨"TwoEndSearch", "begunSearch", "()LTwoEndSearch$Search;"⟩, 5), (⟨"TwoEndSearch$Graph", "slotOf", "(I)I"⟩, 6), (⟨"TwoEndSearch$Search", "meet", "(LTwoEndSearch$Ball;I)I"⟩, 12), (⟨"TwoEndSearch$Ball", "reachFrom", "(II)V"⟩, 11), (⟨"TwoEndSearch$Search", "waysThroughMeeting", "(LTwoEndSearch$Ball;)J"⟩, 12), (⟨"TwoEndSearch$Search", "leadBackToStart", "(LTwoEndSearch$Ball;)V"⟩, 12), (⟨"TwoEndSearch$Search", "leadBackFrom", "(IILTwoEndSearch$Ball;)V"⟩, 12), (⟨"TwoEndSearch$Search", "walkLeastRow", "()V"⟩, 12), (⟨"TwoEndSearch$Search", "leastStep", "(II)I"⟩, 12), (⟨"TwoEndSearch$Search", "afterStep", "(II)I"⟩, 12), (⟨"TwoEndSearch$Ball", "countWithin", "(I)I"⟩, 11)]
theorem lw_r1 : ∀ q ∈ lw_privs_1, lw_okq q := List.forall_mem_cons.mpr ⟨lw_p0, List.forall_mem_cons.mpr ⟨lw_p1, List.forall_mem_cons.mpr ⟨lw_p2, List.forall_mem_cons.mpr ⟨lw_p3, List.forall_mem_cons.mpr ⟨lw_p4, List.forall_mem_cons.mpr ⟨lw_p5, List.forall_mem_cons.mpr ⟨lw_p6, List.forall_mem_cons.mpr ⟨lw_p7, List.forall_mem_cons.mpr ⟨lw_p8, List.forall_mem_cons.mpr ⟨lw_p9, List.forall_mem_cons.mpr ⟨lw_p10, List.forall_mem_cons.mpr ⟨lw_p11, List.forall_mem_cons.mpr ⟨lw_p12, List.forall_mem_cons.mpr ⟨lw_p13, List.forall_mem_cons.mpr ⟨lw_p14, List.forall_mem_cons.mpr ⟨lw_p15, fun _ h => absurd h List.not_mem_nil⟩⟩⟩⟩⟩⟩⟩⟩⟩⟩⟩⟩⟩⟩⟩⟩
theorem lw_p16 : lw_okq (⟨"TwoEndSearchModel", "fresh", "()V"⟩, 22) := ⟨⟨by decide +kernel, by decide +kernel⟩, List.mem_of_getElem? (i := 421) (by decide +kernel), List.mem_of_getElem? (i := 429) (by decide +kernel), List.mem_of_getElem? (i := 430) (by decide +kernel)⟩
theorem lw_p17 : lw_okq (⟨"TwoEndSearchModel", "change", "()V"⟩, 22) := ⟨⟨by decide +kernel, by decide +kernel⟩, List.mem_of_getElem? (i := 421) (by decide +kernel), List.mem_of_getElem? (i := 433) (by decide +kernel), List.mem_of_getElem? (i := 434) (by decide +kernel)⟩
theorem lw_p18 : lw_okq (⟨"TwoEndSearchModel", "isMove", "(I)Z"⟩, 22) := ⟨⟨by decide +kernel, by decide +kernel⟩, List.mem_of_getElem? (i := 421) (by decide +kernel), List.mem_of_getElem? (i := 511) (by decide +kernel), List.mem_of_getElem? (i := 512) (by decide +kernel)⟩
theorem lw_p19 : lw_okq (⟨"TwoEndSearchModel", "isPlace", "(I)Z"⟩, 22) := ⟨⟨by decide +kernel, by decide +kernel⟩, List.mem_of_getElem? (i := 421) (by decide +kernel), List.mem_of_getElem? (i := 515) (by decide +kernel), List.mem_of_getElem? (i := 516) (by decide +kernel)⟩
theorem lw_p20 : lw_okq (⟨"TwoEndSearchModel", "orderOf", "(I)I"⟩, 22) := ⟨⟨by decide +kernel, by decide +kernel⟩, List.mem_of_getElem? (i := 421) (by decide +kernel), List.mem_of_getElem? (i := 519) (by decide +kernel), List.mem_of_getElem? (i := 520) (by decide +kernel)⟩
theorem lw_p21 : lw_okq (⟨"TwoEndSearchModel", "spreadOut", "(IZ)V"⟩, 22) := ⟨⟨by decide +kernel, by decide +kernel⟩, List.mem_of_getElem? (i := 421) (by decide +kernel), List.mem_of_getElem? (i := 542) (by decide +kernel), List.mem_of_getElem? (i := 543) (by decide +kernel)⟩
theorem lw_p22 : lw_okq (⟨"TwoEndSearchModel", "codeOfGoal", "()I"⟩, 22) := ⟨⟨by decide +kernel, by decide +kernel⟩, List.mem_of_getElem? (i := 421) (by decide +kernel), List.mem_of_getElem? (i := 546) (by decide +kernel), List.mem_of_getElem? (i := 547) (by decide +kernel)⟩
theorem lw_p23 : lw_okq (⟨"TwoEndSearchModel", "codeOfStart", "()I"⟩, 22) := ⟨⟨by decide +kernel, by decide +kernel⟩, List.mem_of_getElem? (i := 421) (by decide +kernel), List.mem_of_getElem? (i := 550) (by decide +kernel), List.mem_of_getElem? (i := 551) (by decide +kernel)⟩
theorem lw_p24 : lw_okq (⟨"TwoEndSearchModel", "put", "(II)I"⟩, 22) := ⟨⟨by decide +kernel, by decide +kernel⟩, List.mem_of_getElem? (i := 421) (by decide +kernel), List.mem_of_getElem? (i := 554) (by decide +kernel), List.mem_of_getElem? (i := 555) (by decide +kernel)⟩
theorem lw_p25 : lw_okq (⟨"TwoEndSearchModel", "seatOf", "(I)I"⟩, 22) := ⟨⟨by decide +kernel, by decide +kernel⟩, List.mem_of_getElem? (i := 421) (by decide +kernel), List.mem_of_getElem? (i := 558) (by decide +kernel), List.mem_of_getElem? (i := 559) (by decide +kernel)⟩
theorem lw_p26 : lw_okq (⟨"TwoEndSearchModel", "most", "(II)I"⟩, 22) := ⟨⟨by decide +kernel, by decide +kernel⟩, List.mem_of_getElem? (i := 421) (by decide +kernel), List.mem_of_getElem? (i := 563) (by decide +kernel), List.mem_of_getElem? (i := 564) (by decide +kernel)⟩
theorem lw_p27 : lw_okq (⟨"TwoEndSearchModel", "done", "(IIZ)I"⟩, 22) := ⟨⟨by decide +kernel, by decide +kernel⟩, List.mem_of_getElem? (i := 421) (by decide +kernel), List.mem_of_getElem? (i := 567) (by decide +kernel), List.mem_of_getElem? (i := 568) (by decide +kernel)⟩
theorem lw_p28 : lw_okq (⟨"TwoEndSearchModel", "numberOf", "(I)I"⟩, 22) := ⟨⟨by decide +kernel, by decide +kernel⟩, List.mem_of_getElem? (i := 421) (by decide +kernel), List.mem_of_getElem? (i := 571) (by decide +kernel), List.mem_of_getElem? (i := 572) (by decide +kernel)⟩
def lw_privs_2 : List (MethodName × Nat) := [(⟨"TwoEndSearchModel", "fresh", "()V"⟩, 22), (⟨"TwoEndSearchModel", "change", "()V"⟩, 22), (⟨"TwoEndSearchModel", "isMove", "(I)Z"⟩, 22), (⟨"TwoEndSearchModel", "isPlace", "(I)Z"⟩, 22), (⟨"TwoEndSearchModel", "orderOf", "(I)I"⟩, 22), (⟨"TwoEndSearchModel", "spreadOut", "(IZ)V"⟩, 22), (⟨"TwoEndSearchModel", "codeOfGoal", "()I"⟩, 22), (⟨"TwoEndSearchModel", "codeOfStart", "()I"⟩, 22), (⟨"TwoEndSearchModel", "put", "(II)I"⟩, 22), (⟨"TwoEndSearchModel", "seatOf", "(I)I"⟩, 22), (⟨"TwoEndSearchModel", "most", "(II)I"⟩, 22), (⟨"TwoEndSearchModel", "done", "(IIZ)I"⟩, 22), (⟨"TwoEndSearchModel", "numberOf", "(I)I"⟩, 22)]
theorem lw_r2 : ∀ q ∈ lw_privs_2, lw_okq q := List.forall_mem_cons.mpr ⟨lw_p16, List.forall_mem_cons.mpr ⟨lw_p17, List.forall_mem_cons.mpr ⟨lw_p18, List.forall_mem_cons.mpr ⟨lw_p19, List.forall_mem_cons.mpr ⟨lw_p20, List.forall_mem_cons.mpr ⟨lw_p21, List.forall_mem_cons.mpr ⟨lw_p22, List.forall_mem_cons.mpr ⟨lw_p23, List.forall_mem_cons.mpr ⟨lw_p24, List.forall_mem_cons.mpr ⟨lw_p25, List.forall_mem_cons.mpr ⟨lw_p26, List.forall_mem_cons.mpr ⟨lw_p27, List.forall_mem_cons.mpr ⟨lw_p28, fun _ h => absurd h List.not_mem_nil⟩⟩⟩⟩⟩⟩⟩⟩⟩⟩⟩⟩⟩
def lw_privs : List (MethodName × Nat) := lw_privs_1 ++ (lw_privs_2)
def lw_tbl : List Cond := k2_sels lw_privs ++ tables_1
theorem lw_privs_ok : ∀ q ∈ lw_privs, lw_okq q := by
  show ∀ q ∈ lw_privs_1 ++ (lw_privs_2), lw_okq q
  exact List.forall_mem_append.mpr ⟨lw_r1, lw_r2⟩
end
section
/-! NAMES, by program (wip/whole/gen/names.py) -/
def bigW : List Cond := lw_tbl.filter goodWord
theorem bigW_of {w : Cond} (i : Nat) (h : lw_tbl[i]? = some w) (hg : goodWord w = true) : w ∈ bigW := List.mem_filter.mpr ⟨List.mem_of_getElem? h, hg⟩
theorem bigW_good : ∀ w ∈ bigW, (w.onTables && w.keeps) = true ∨ ∃ ty, w = .arrayClass ty := fun _ h => good_of_word (List.mem_filter.mp h).2
def R_M : String := "TwoEndSearch$Moves"
def T_M : u_T := fun k => match k with
  | 0 => ("TwoEndSearch$Moves", "places", "I", true)
  | 1 => ("TwoEndSearch$Moves", "targets", "[[I", true)
  | 2 => ("TwoEndSearch$Moves", "orders", "[I", true)
  | _ => ("TwoEndSearch$Moves", "count", "I", false)
def t_M : Nat → FieldType := fun k => match k with
  | 0 => .int
  | 1 => .array (.array .int)
  | 2 => .array .int
  | _ => .int
theorem n_M : ∀ a, a < 4 → ∀ b, b < 4 → a ≠ b → (T_M a).2.1 ≠ (T_M b).2.1 := by decide +kernel
theorem t_M_ok : ∀ k, k < 4 → parseFieldDescriptor (T_M k).2.2.1 = some (t_M k) := by decide +kernel
theorem i_M0 : ∀ w ∈ u_ws R_M T_M 4, w ∈ lw_tbl := by decide +kernel
theorem i_M1 : ∀ w ∈ u_ws R_M T_M 4, goodWord w = true := by decide +kernel
theorem i_M : ∀ w ∈ u_ws R_M T_M 4, w ∈ bigW := fun w h => List.mem_filter.mpr ⟨i_M0 w h, i_M1 w h⟩
def R_G : String := "TwoEndSearch$Graph"
def T_G : u_T := fun k => match k with
  | 0 => ("TwoEndSearch$Graph", "moves", "LTwoEndSearch$Moves;", true)
  | 1 => ("TwoEndSearch$Graph", "states", "[I", true)
  | 2 => ("TwoEndSearch$Graph", "slots", "[I", true)
  | 3 => ("TwoEndSearch$Graph", "hashShift", "I", true)
  | 4 => ("TwoEndSearch$Graph", "links", "[[I", true)
  | _ => ("TwoEndSearch$Graph", "count", "I", false)
def t_G : Nat → FieldType := fun k => match k with
  | 0 => .object "TwoEndSearch$Moves"
  | 1 => .array .int
  | 2 => .array .int
  | 3 => .int
  | 4 => .array (.array .int)
  | _ => .int
theorem n_G : ∀ a, a < 6 → ∀ b, b < 6 → a ≠ b → (T_G a).2.1 ≠ (T_G b).2.1 := by decide +kernel
theorem t_G_ok : ∀ k, k < 6 → parseFieldDescriptor (T_G k).2.2.1 = some (t_G k) := by decide +kernel
theorem i_G0 : ∀ w ∈ u_ws R_G T_G 6, w ∈ lw_tbl := by decide +kernel
theorem i_G1 : ∀ w ∈ u_ws R_G T_G 6, goodWord w = true := by decide +kernel
theorem i_G : ∀ w ∈ u_ws R_G T_G 6, w ∈ bigW := fun w h => List.mem_filter.mpr ⟨i_G0 w h, i_G1 w h⟩
def R_B : String := "TwoEndSearch$Ball"
def T_B : u_T := fun k => match k with
  | 0 => ("TwoEndSearch$Ball", "moves", "LTwoEndSearch$Moves;", true)
  | 1 => ("TwoEndSearch$Ball", "graph", "LTwoEndSearch$Graph;", true)
  | 2 => ("TwoEndSearch$Ball", "firstWay", "I", true)
  | 3 => ("TwoEndSearch$Ball", "far", "[I", true)
  | 4 => ("TwoEndSearch$Ball", "ways", "[J", true)
  | 5 => ("TwoEndSearch$Ball", "reached", "[I", true)
  | 6 => ("TwoEndSearch$Ball", "size", "I", false)
  | 7 => ("TwoEndSearch$Ball", "layerStart", "I", false)
  | 8 => ("TwoEndSearch$Ball", "depth", "I", false)
  | 9 => ("TwoEndSearch$Ball", "measure", "I", false)
  | _ => ("TwoEndSearch$Ball", "complete", "Z", false)
def t_B : Nat → FieldType := fun k => match k with
  | 0 => .object "TwoEndSearch$Moves"
  | 1 => .object "TwoEndSearch$Graph"
  | 2 => .int
  | 3 => .array .int
  | 4 => .array .long
  | 5 => .array .int
  | 6 => .int
  | 7 => .int
  | 8 => .int
  | 9 => .int
  | _ => .boolean
theorem n_B : ∀ a, a < 11 → ∀ b, b < 11 → a ≠ b → (T_B a).2.1 ≠ (T_B b).2.1 := by decide +kernel
theorem t_B_ok : ∀ k, k < 11 → parseFieldDescriptor (T_B k).2.2.1 = some (t_B k) := by decide +kernel
theorem i_B0 : ∀ w ∈ u_ws R_B T_B 11, w ∈ lw_tbl := by decide +kernel
theorem i_B1 : ∀ w ∈ u_ws R_B T_B 11, goodWord w = true := by decide +kernel
theorem i_B : ∀ w ∈ u_ws R_B T_B 11, w ∈ bigW := fun w h => List.mem_filter.mpr ⟨i_B0 w h, i_B1 w h⟩
def R_S : String := "TwoEndSearch$Search"
def T_S : u_T := fun k => match k with
  | 0 => ("TwoEndSearch$Search", "places", "I", true)
  | 1 => ("TwoEndSearch$Search", "moves", "LTwoEndSearch$Moves;", true)
  | 2 => ("TwoEndSearch$Search", "graph", "LTwoEndSearch$Graph;", true)
  | 3 => ("TwoEndSearch$Search", "aheadOnce", "LTwoEndSearch$Ball;", true)
  | 4 => ("TwoEndSearch$Search", "aheadPowers", "LTwoEndSearch$Ball;", true)
  | 5 => ("TwoEndSearch$Search", "back", "LTwoEndSearch$Ball;", true)
  | 6 => ("TwoEndSearch$Search", "row", "[I", true)
  | 7 => ("TwoEndSearch$Search", "begun", "Z", false)
  | 8 => ("TwoEndSearch$Search", "start", "I", false)
  | 9 => ("TwoEndSearch$Search", "root", "I", false)
  | 10 => ("TwoEndSearch$Search", "length", "I", false)
  | _ => ("TwoEndSearch$Search", "ways", "J", false)
def t_S : Nat → FieldType := fun k => match k with
  | 0 => .int
  | 1 => .object "TwoEndSearch$Moves"
  | 2 => .object "TwoEndSearch$Graph"
  | 3 => .object "TwoEndSearch$Ball"
  | 4 => .object "TwoEndSearch$Ball"
  | 5 => .object "TwoEndSearch$Ball"
  | 6 => .array .int
  | 7 => .boolean
  | 8 => .int
  | 9 => .int
  | 10 => .int
  | _ => .long
theorem n_S : ∀ a, a < 12 → ∀ b, b < 12 → a ≠ b → (T_S a).2.1 ≠ (T_S b).2.1 := by decide +kernel
theorem t_S_ok : ∀ k, k < 12 → parseFieldDescriptor (T_S k).2.2.1 = some (t_S k) := by decide +kernel
theorem i_S0 : ∀ w ∈ u_ws R_S T_S 12, w ∈ lw_tbl := by decide +kernel
theorem i_S1 : ∀ w ∈ u_ws R_S T_S 12, goodWord w = true := by decide +kernel
theorem i_S : ∀ w ∈ u_ws R_S T_S 12, w ∈ bigW := fun w h => List.mem_filter.mpr ⟨i_S0 w h, i_S1 w h⟩
def R_X : String := "TwoEndSearch"
def T_X : u_T := fun k => match k with
  | 0 => ("TwoEndSearch", "places", "I", true)
  | 1 => ("TwoEndSearch", "moves", "LTwoEndSearch$Moves;", true)
  | 2 => ("TwoEndSearch", "start", "I", false)
  | 3 => ("TwoEndSearch", "goal", "I", false)
  | _ => ("TwoEndSearch", "search", "LTwoEndSearch$Search;", false)
def t_X : Nat → FieldType := fun k => match k with
  | 0 => .int
  | 1 => .object "TwoEndSearch$Moves"
  | 2 => .int
  | 3 => .int
  | _ => .object "TwoEndSearch$Search"
theorem n_X : ∀ a, a < 5 → ∀ b, b < 5 → a ≠ b → (T_X a).2.1 ≠ (T_X b).2.1 := by decide +kernel
theorem t_X_ok : ∀ k, k < 5 → parseFieldDescriptor (T_X k).2.2.1 = some (t_X k) := by decide +kernel
theorem i_X0 : ∀ w ∈ u_ws R_X T_X 5, w ∈ lw_tbl := by decide +kernel
theorem i_X1 : ∀ w ∈ u_ws R_X T_X 5, goodWord w = true := by decide +kernel
theorem i_X : ∀ w ∈ u_ws R_X T_X 5, w ∈ bigW := fun w h => List.mem_filter.mpr ⟨i_X0 w h, i_X1 w h⟩
def R_Z : String := "TwoEndSearchModel"
def T_Z : u_T := fun k => match k with
  | 0 => ("TwoEndSearchModel", "thrown", "I", false)
  | 1 => ("TwoEndSearchModel", "places", "I", true)
  | 2 => ("TwoEndSearchModel", "moves", "I", false)
  | 3 => ("TwoEndSearchModel", "to", "[I", true)
  | 4 => ("TwoEndSearchModel", "orders", "[I", true)
  | 5 => ("TwoEndSearchModel", "start", "[I", true)
  | 6 => ("TwoEndSearchModel", "goal", "[I", true)
  | 7 => ("TwoEndSearchModel", "known", "I", false)
  | 8 => ("TwoEndSearchModel", "isBack", "Z", false)
  | 9 => ("TwoEndSearchModel", "size", "I", false)
  | 10 => ("TwoEndSearchModel", "states", "[I", true)
  | 11 => ("TwoEndSearchModel", "steps", "[I", true)
  | 12 => ("TwoEndSearchModel", "ways", "[J", true)
  | 13 => ("TwoEndSearchModel", "seats", "[I", true)
  | 14 => ("TwoEndSearchModel", "isFound", "Z", false)
  | 15 => ("TwoEndSearchModel", "length", "I", false)
  | 16 => ("TwoEndSearchModel", "foundMeasure", "I", false)
  | 17 => ("TwoEndSearchModel", "foundWays", "J", false)
  | 18 => ("TwoEndSearchModel", "foundMoves", "[I", true)
  | 19 => ("TwoEndSearchModel", "foundTimes", "[I", true)
  | 20 => ("TwoEndSearchModel", "row", "[I", true)
  | _ => ("TwoEndSearchModel", "next", "[I", true)
def t_Z : Nat → FieldType := fun k => match k with
  | 0 => .int
  | 1 => .int
  | 2 => .int
  | 3 => .array .int
  | 4 => .array .int
  | 5 => .array .int
  | 6 => .array .int
  | 7 => .int
  | 8 => .boolean
  | 9 => .int
  | 10 => .array .int
  | 11 => .array .int
  | 12 => .array .long
  | 13 => .array .int
  | 14 => .boolean
  | 15 => .int
  | 16 => .int
  | 17 => .long
  | 18 => .array .int
  | 19 => .array .int
  | 20 => .array .int
  | _ => .array .int
theorem n_Z : ∀ a, a < 22 → ∀ b, b < 22 → a ≠ b → (T_Z a).2.1 ≠ (T_Z b).2.1 := by decide +kernel
theorem t_Z_ok : ∀ k, k < 22 → parseFieldDescriptor (T_Z k).2.2.1 = some (t_Z k) := by decide +kernel
theorem i_Z0 : ∀ w ∈ u_ws R_Z T_Z 22, w ∈ lw_tbl := by decide +kernel
theorem i_Z1 : ∀ w ∈ u_ws R_Z T_Z 22, goodWord w = true := by decide +kernel
theorem i_Z : ∀ w ∈ u_ws R_Z T_Z 22, w ∈ bigW := fun w h => List.mem_filter.mpr ⟨i_Z0 w h, i_Z1 w h⟩
abbrev vwCl : List vw_C := [(R_M, T_M, 4), (R_G, T_G, 6), (R_B, T_B, 11), (R_S, T_S, 12), (R_X, T_X, 5), (R_Z, T_Z, 22)]
abbrev b_A_fill : ByteArray := prog_9_method_103_code
def y_A_fill : MethodName := ⟨"java/util/Arrays", "fill", "([II)V"⟩
abbrev ws_A_fill : List Cond := .code y_A_fill b_A_fill 4 none :: bigW
abbrev b_B_begin : ByteArray := prog_2_method_2_code
def y_B_begin : MethodName := ⟨"TwoEndSearch$Ball", "begin", "(II)V"⟩
abbrev ws_B_begin : List Cond := .code y_B_begin b_B_begin 4 none :: bigW
abbrev b_B_countWithin : ByteArray := prog_2_method_11_code
def y_B_countWithin : MethodName := ⟨"TwoEndSearch$Ball", "countWithin", "(I)I"⟩
abbrev ws_B_countWithin : List Cond := .code y_B_countWithin b_B_countWithin 5 (some .int) :: bigW
abbrev b_B_grow : ByteArray := prog_2_method_4_code
def y_B_grow : MethodName := ⟨"TwoEndSearch$Ball", "grow", "()Z"⟩
abbrev ws_B_grow : List Cond := .code y_B_grow b_B_grow 4 (some .boolean) :: bigW
abbrev b_B_growTo : ByteArray := prog_2_method_5_code
def y_B_growTo : MethodName := ⟨"TwoEndSearch$Ball", "growTo", "(I)V"⟩
abbrev ws_B_growTo : List Cond := .code y_B_growTo b_B_growTo 3 none :: bigW
abbrev b_B_growWhole : ByteArray := prog_2_method_6_code
def y_B_growWhole : MethodName := ⟨"TwoEndSearch$Ball", "growWhole", "()V"⟩
abbrev ws_B_growWhole : List Cond := .code y_B_growWhole b_B_growWhole 1 none :: bigW
abbrev b_B_init : ByteArray := prog_2_method_1_code
def y_B_init : MethodName := ⟨"TwoEndSearch$Ball", "<init>", "(ILTwoEndSearch$Graph;Z)V"⟩
abbrev ws_B_init : List Cond := .code y_B_init b_B_init 4 none :: bigW
abbrev b_B_lastLayerMeets : ByteArray := prog_2_method_9_code
def y_B_lastLayerMeets : MethodName := ⟨"TwoEndSearch$Ball", "lastLayerMeets", "(LTwoEndSearch$Ball;)Z"⟩
abbrev ws_B_lastLayerMeets : List Cond := .code y_B_lastLayerMeets b_B_lastLayerMeets 3 (some .boolean) :: bigW
abbrev b_B_reachFrom : ByteArray := prog_2_method_10_code
def y_B_reachFrom : MethodName := ⟨"TwoEndSearch$Ball", "reachFrom", "(II)V"⟩
abbrev ws_B_reachFrom : List Cond := .code y_B_reachFrom b_B_reachFrom 6 none :: bigW
abbrev b_B_sizeOfLastLayer : ByteArray := prog_2_method_8_code
def y_B_sizeOfLastLayer : MethodName := ⟨"TwoEndSearch$Ball", "sizeOfLastLayer", "()I"⟩
abbrev ws_B_sizeOfLastLayer : List Cond := .code y_B_sizeOfLastLayer b_B_sizeOfLastLayer 1 (some .int) :: bigW
abbrev b_B_sizeOfLayer : ByteArray := prog_2_method_7_code
def y_B_sizeOfLayer : MethodName := ⟨"TwoEndSearch$Ball", "sizeOfLayer", "(I)I"⟩
abbrev ws_B_sizeOfLayer : List Cond := .code y_B_sizeOfLayer b_B_sizeOfLayer 2 (some .int) :: bigW
abbrev b_B_take : ByteArray := prog_2_method_3_code
def y_B_take : MethodName := ⟨"TwoEndSearch$Ball", "take", "(II)V"⟩
abbrev ws_B_take : List Cond := .code y_B_take b_B_take 3 none :: bigW
abbrev b_G_dropAll : ByteArray := prog_3_method_2_code
def y_G_dropAll : MethodName := ⟨"TwoEndSearch$Graph", "dropAll", "()V"⟩
abbrev ws_G_dropAll : List Cond := .code y_G_dropAll b_G_dropAll 2 none :: bigW
abbrev b_G_enter : ByteArray := prog_3_method_3_code
def y_G_enter : MethodName := ⟨"TwoEndSearch$Graph", "enter", "(I)I"⟩
abbrev ws_G_enter : List Cond := .code y_G_enter b_G_enter 4 (some .int) :: bigW
abbrev b_G_follow : ByteArray := prog_3_method_4_code
def y_G_follow : MethodName := ⟨"TwoEndSearch$Graph", "follow", "(II)I"⟩
abbrev ws_G_follow : List Cond := .code y_G_follow b_G_follow 6 (some .int) :: bigW
abbrev b_G_init : ByteArray := prog_3_method_1_code
def y_G_init : MethodName := ⟨"TwoEndSearch$Graph", "<init>", "(ILTwoEndSearch$Moves;)V"⟩
abbrev ws_G_init : List Cond := .code y_G_init b_G_init 4 none :: bigW
abbrev b_G_slotOf : ByteArray := prog_3_method_5_code
def y_G_slotOf : MethodName := ⟨"TwoEndSearch$Graph", "slotOf", "(I)I"⟩
abbrev ws_G_slotOf : List Cond := .code y_G_slotOf b_G_slotOf 5 (some .int) :: bigW
abbrev b_J_max : ByteArray := prog_8_method_65_code
def y_J_max : MethodName := ⟨"java/lang/Math", "max", "(II)I"⟩
abbrev ws_J_max : List Cond := .code y_J_max b_J_max 2 (some .int) :: bigW
abbrev b_J_min : ByteArray := prog_8_method_69_code
def y_J_min : MethodName := ⟨"java/lang/Math", "min", "(II)I"⟩
abbrev ws_J_min : List Cond := .code y_J_min b_J_min 2 (some .int) :: bigW
abbrev b_L_cell : ByteArray := method_2_code
def y_L_cell : MethodName := ⟨"TwoEndSearchLaw", "cell", "([II)I"⟩
abbrev ws_L_cell : List Cond := .code y_L_cell b_L_cell 2 (some .int) :: bigW
abbrev b_M_add : ByteArray := prog_4_method_3_code
def y_M_add : MethodName := ⟨"TwoEndSearch$Moves", "add", "()I"⟩
abbrev ws_M_add : List Cond := .code y_M_add b_M_add 3 (some .int) :: bigW
abbrev b_M_aim : ByteArray := prog_4_method_10_code
def y_M_aim : MethodName := ⟨"TwoEndSearch$Moves", "aim", "(III)V"⟩
abbrev ws_M_aim : List Cond := .code y_M_aim b_M_aim 4 none :: bigW
abbrev b_M_bring : ByteArray := prog_4_method_7_code
def y_M_bring : MethodName := ⟨"TwoEndSearch$Moves", "bring", "(II)I"⟩
abbrev ws_M_bring : List Cond := .code y_M_bring b_M_bring 7 (some .int) :: bigW
abbrev b_M_countOrder : ByteArray := prog_4_method_11_code
def y_M_countOrder : MethodName := ⟨"TwoEndSearch$Moves", "countOrder", "(I)I"⟩
abbrev ws_M_countOrder : List Cond := .code y_M_countOrder b_M_countOrder 5 (some .int) :: bigW
abbrev b_M_dropAll : ByteArray := prog_4_method_8_code
def y_M_dropAll : MethodName := ⟨"TwoEndSearch$Moves", "dropAll", "()V"⟩
abbrev ws_M_dropAll : List Cond := .code y_M_dropAll b_M_dropAll 1 none :: bigW
abbrev b_M_has : ByteArray := prog_4_method_2_code
def y_M_has : MethodName := ⟨"TwoEndSearch$Moves", "has", "(I)Z"⟩
abbrev ws_M_has : List Cond := .code y_M_has b_M_has 2 (some .boolean) :: bigW
abbrev b_M_init : ByteArray := prog_4_method_1_code
def y_M_init : MethodName := ⟨"TwoEndSearch$Moves", "<init>", "(I)V"⟩
abbrev ws_M_init : List Cond := .code y_M_init b_M_init 2 none :: bigW
abbrev b_M_isPlace : ByteArray := prog_4_method_9_code
def y_M_isPlace : MethodName := ⟨"TwoEndSearch$Moves", "isPlace", "(I)Z"⟩
abbrev ws_M_isPlace : List Cond := .code y_M_isPlace b_M_isPlace 2 (some .boolean) :: bigW
abbrev b_M_lengthen : ByteArray := prog_4_method_4_code
def y_M_lengthen : MethodName := ⟨"TwoEndSearch$Moves", "lengthen", "(III)Z"⟩
abbrev ws_M_lengthen : List Cond := .code y_M_lengthen b_M_lengthen 5 (some .boolean) :: bigW
abbrev b_M_mostTimes : ByteArray := prog_4_method_6_code
def y_M_mostTimes : MethodName := ⟨"TwoEndSearch$Moves", "mostTimes", "(II)I"⟩
abbrev ws_M_mostTimes : List Cond := .code y_M_mostTimes b_M_mostTimes 3 (some .int) :: bigW
abbrev b_M_orderOf : ByteArray := prog_4_method_5_code
def y_M_orderOf : MethodName := ⟨"TwoEndSearch$Moves", "orderOf", "(I)I"⟩
abbrev ws_M_orderOf : List Cond := .code y_M_orderOf b_M_orderOf 2 (some .int) :: bigW
abbrev b_S_afterStep : ByteArray := prog_5_method_12_code
def y_S_afterStep : MethodName := ⟨"TwoEndSearch$Search", "afterStep", "(II)I"⟩
abbrev ws_S_afterStep : List Cond := .code y_S_afterStep b_S_afterStep 5 (some .int) :: bigW
abbrev b_S_ahead : ByteArray := prog_5_method_4_code
def y_S_ahead : MethodName := ⟨"TwoEndSearch$Search", "ahead", "(I)LTwoEndSearch$Ball;"⟩
abbrev ws_S_ahead : List Cond := .code y_S_ahead b_S_ahead 2 (some (.object "TwoEndSearch$Ball")) :: bigW
abbrev b_S_begin : ByteArray := prog_5_method_2_code
def y_S_begin : MethodName := ⟨"TwoEndSearch$Search", "begin", "(I)V"⟩
abbrev ws_S_begin : List Cond := .code y_S_begin b_S_begin 2 none :: bigW
abbrev b_S_findRow : ByteArray := prog_5_method_5_code
def y_S_findRow : MethodName := ⟨"TwoEndSearch$Search", "findRow", "(III)I"⟩
abbrev ws_S_findRow : List Cond := .code y_S_findRow b_S_findRow 5 (some .int) :: bigW
abbrev b_S_forgetRow : ByteArray := prog_5_method_3_code
def y_S_forgetRow : MethodName := ⟨"TwoEndSearch$Search", "forgetRow", "()V"⟩
abbrev ws_S_forgetRow : List Cond := .code y_S_forgetRow b_S_forgetRow 1 none :: bigW
abbrev b_S_init : ByteArray := prog_5_method_1_code
def y_S_init : MethodName := ⟨"TwoEndSearch$Search", "<init>", "(ILTwoEndSearch$Moves;)V"⟩
abbrev ws_S_init : List Cond := .code y_S_init b_S_init 4 none :: bigW
abbrev b_S_leadBackFrom : ByteArray := prog_5_method_9_code
def y_S_leadBackFrom : MethodName := ⟨"TwoEndSearch$Search", "leadBackFrom", "(IILTwoEndSearch$Ball;)V"⟩
abbrev ws_S_leadBackFrom : List Cond := .code y_S_leadBackFrom b_S_leadBackFrom 8 none :: bigW
abbrev b_S_leadBackToStart : ByteArray := prog_5_method_8_code
def y_S_leadBackToStart : MethodName := ⟨"TwoEndSearch$Search", "leadBackToStart", "(LTwoEndSearch$Ball;)V"⟩
abbrev ws_S_leadBackToStart : List Cond := .code y_S_leadBackToStart b_S_leadBackToStart 6 none :: bigW
abbrev b_S_leastStep : ByteArray := prog_5_method_11_code
def y_S_leastStep : MethodName := ⟨"TwoEndSearch$Search", "leastStep", "(II)I"⟩
abbrev ws_S_leastStep : List Cond := .code y_S_leastStep b_S_leastStep 7 (some .int) :: bigW
abbrev b_S_meet : ByteArray := prog_5_method_6_code
def y_S_meet : MethodName := ⟨"TwoEndSearch$Search", "meet", "(LTwoEndSearch$Ball;I)I"⟩
abbrev ws_S_meet : List Cond := .code y_S_meet b_S_meet 6 (some .int) :: bigW
abbrev b_S_walkLeastRow : ByteArray := prog_5_method_10_code
def y_S_walkLeastRow : MethodName := ⟨"TwoEndSearch$Search", "walkLeastRow", "()V"⟩
abbrev ws_S_walkLeastRow : List Cond := .code y_S_walkLeastRow b_S_walkLeastRow 3 none :: bigW
abbrev b_S_waysThroughMeeting : ByteArray := prog_5_method_7_code
def y_S_waysThroughMeeting : MethodName := ⟨"TwoEndSearch$Search", "waysThroughMeeting", "(LTwoEndSearch$Ball;)J"⟩
abbrev ws_S_waysThroughMeeting : List Cond := .code y_S_waysThroughMeeting b_S_waysThroughMeeting 7 (some .long) :: bigW
abbrev b_X_arrangements : ByteArray := prog_1_method_20_code
def y_X_arrangements : MethodName := ⟨"TwoEndSearch", "arrangements", "(I)I"⟩
abbrev ws_X_arrangements : List Cond := .code y_X_arrangements b_X_arrangements 3 (some .int) :: bigW
abbrev b_X_begunSearch : ByteArray := prog_1_method_13_code
def y_X_begunSearch : MethodName := ⟨"TwoEndSearch", "begunSearch", "()LTwoEndSearch$Search;"⟩
abbrev ws_X_begunSearch : List Cond := .code y_X_begunSearch b_X_begunSearch 1 (some (.object "TwoEndSearch$Search")) :: bigW
abbrev b_X_clear : ByteArray := prog_1_method_12_code
def y_X_clear : MethodName := ⟨"TwoEndSearch", "clear", "()V"⟩
abbrev ws_X_clear : List Cond := .code y_X_clear b_X_clear 1 none :: bigW
abbrev b_X_cycle : ByteArray := prog_1_method_3_code
def y_X_cycle : MethodName := ⟨"TwoEndSearch", "cycle", "(III)Z"⟩
abbrev ws_X_cycle : List Cond := .code y_X_cycle b_X_cycle 5 (some .boolean) :: bigW
abbrev b_X_deepest : ByteArray := prog_1_method_10_code
def y_X_deepest : MethodName := ⟨"TwoEndSearch", "deepest", "(I)I"⟩
abbrev ws_X_deepest : List Cond := .code y_X_deepest b_X_deepest 3 (some .int) :: bigW
abbrev b_X_firstState : ByteArray := prog_1_method_17_code
def y_X_firstState : MethodName := ⟨"TwoEndSearch", "firstState", "(I)I"⟩
abbrev ws_X_firstState : List Cond := .code y_X_firstState b_X_firstState 3 (some .int) :: bigW
abbrev b_X_forgetAll : ByteArray := prog_1_method_14_code
def y_X_forgetAll : MethodName := ⟨"TwoEndSearch", "forgetAll", "()V"⟩
abbrev ws_X_forgetAll : List Cond := .code y_X_forgetAll b_X_forgetAll 1 none :: bigW
abbrev b_X_forgetFound : ByteArray := prog_1_method_15_code
def y_X_forgetFound : MethodName := ⟨"TwoEndSearch", "forgetFound", "()V"⟩
abbrev ws_X_forgetFound : List Cond := .code y_X_forgetFound b_X_forgetFound 1 none :: bigW
abbrev b_X_init : ByteArray := prog_1_method_1_code
def y_X_init : MethodName := ⟨"TwoEndSearch", "<init>", "(I)V"⟩
abbrev ws_X_init : List Cond := .code y_X_init b_X_init 2 none :: bigW
abbrev b_X_isMeasure : ByteArray := prog_1_method_16_code
def y_X_isMeasure : MethodName := ⟨"TwoEndSearch", "isMeasure", "(I)Z"⟩
abbrev ws_X_isMeasure : List Cond := .code y_X_isMeasure b_X_isMeasure 1 (some .boolean) :: bigW
abbrev b_X_label : ByteArray := prog_1_method_5_code
def y_X_label : MethodName := ⟨"TwoEndSearch", "label", "(ZII)Z"⟩
abbrev ws_X_label : List Cond := .code y_X_label b_X_label 4 (some .boolean) :: bigW
abbrev b_X_labelled : ByteArray := prog_1_method_18_code
def y_X_labelled : MethodName := ⟨"TwoEndSearch", "labelled", "(III)I"⟩
abbrev ws_X_labelled : List Cond := .code y_X_labelled b_X_labelled 4 (some .int) :: bigW
abbrev b_X_move : ByteArray := prog_1_method_2_code
def y_X_move : MethodName := ⟨"TwoEndSearch", "move", "()I"⟩
abbrev ws_X_move : List Cond := .code y_X_move b_X_move 2 (some .int) :: bigW
abbrev b_X_order : ByteArray := prog_1_method_4_code
def y_X_order : MethodName := ⟨"TwoEndSearch", "order", "(I)I"⟩
abbrev ws_X_order : List Cond := .code y_X_order b_X_order 2 (some .int) :: bigW
abbrev b_X_replay : ByteArray := prog_1_method_11_code
def y_X_replay : MethodName := ⟨"TwoEndSearch", "replay", "(J)Z"⟩
abbrev ws_X_replay : List Cond := .code y_X_replay b_X_replay 8 (some .boolean) :: bigW
abbrev b_X_run : ByteArray := prog_1_method_6_code
def y_X_run : MethodName := ⟨"TwoEndSearch", "run", "(II)I"⟩
abbrev ws_X_run : List Cond := .code y_X_run b_X_run 3 (some .int) :: bigW
abbrev b_X_spread : ByteArray := prog_1_method_9_code
def y_X_spread : MethodName := ⟨"TwoEndSearch", "spread", "(II)I"⟩
abbrev ws_X_spread : List Cond := .code y_X_spread b_X_spread 4 (some .int) :: bigW
abbrev b_X_step : ByteArray := prog_1_method_7_code
def y_X_step : MethodName := ⟨"TwoEndSearch", "step", "(IZ)I"⟩
abbrev ws_X_step : List Cond := .code y_X_step b_X_step 4 (some .int) :: bigW
abbrev b_X_tally : ByteArray := prog_1_method_19_code
def y_X_tally : MethodName := ⟨"TwoEndSearch", "tally", "(II)I"⟩
abbrev ws_X_tally : List Cond := .code y_X_tally b_X_tally 5 (some .int) :: bigW
abbrev b_X_ways : ByteArray := prog_1_method_8_code
def y_X_ways : MethodName := ⟨"TwoEndSearch", "ways", "()J"⟩
abbrev ws_X_ways : List Cond := .code y_X_ways b_X_ways 1 (some .long) :: bigW
abbrev b_Z_change : ByteArray := prog_7_method_4_code
def y_Z_change : MethodName := ⟨"TwoEndSearchModel", "change", "()V"⟩
abbrev ws_Z_change : List Cond := .code y_Z_change b_Z_change 1 none :: bigW
abbrev b_Z_clear : ByteArray := prog_7_method_13_code
def y_Z_clear : MethodName := ⟨"TwoEndSearchModel", "clear", "()V"⟩
abbrev ws_Z_clear : List Cond := .code y_Z_clear b_Z_clear 1 none :: bigW
abbrev b_Z_codeOfGoal : ByteArray := prog_7_method_15_code
def y_Z_codeOfGoal : MethodName := ⟨"TwoEndSearchModel", "codeOfGoal", "()I"⟩
abbrev ws_Z_codeOfGoal : List Cond := .code y_Z_codeOfGoal b_Z_codeOfGoal 3 (some .int) :: bigW
abbrev b_Z_codeOfStart : ByteArray := prog_7_method_14_code
def y_Z_codeOfStart : MethodName := ⟨"TwoEndSearchModel", "codeOfStart", "()I"⟩
abbrev ws_Z_codeOfStart : List Cond := .code y_Z_codeOfStart b_Z_codeOfStart 3 (some .int) :: bigW
abbrev b_Z_cycle : ByteArray := prog_7_method_10_code
def y_Z_cycle : MethodName := ⟨"TwoEndSearchModel", "cycle", "(III)Z"⟩
abbrev ws_Z_cycle : List Cond := .code y_Z_cycle b_Z_cycle 4 (some .boolean) :: bigW
abbrev b_Z_deepest : ByteArray := prog_7_method_26_code
def y_Z_deepest : MethodName := ⟨"TwoEndSearchModel", "deepest", "(I)I"⟩
abbrev ws_Z_deepest : List Cond := .code y_Z_deepest b_Z_deepest 2 (some .int) :: bigW
abbrev b_Z_done : ByteArray := prog_7_method_16_code
def y_Z_done : MethodName := ⟨"TwoEndSearchModel", "done", "(IIZ)I"⟩
abbrev ws_Z_done : List Cond := .code y_Z_done b_Z_done 7 (some .int) :: bigW
abbrev b_Z_fresh : ByteArray := prog_7_method_3_code
def y_Z_fresh : MethodName := ⟨"TwoEndSearchModel", "fresh", "()V"⟩
abbrev ws_Z_fresh : List Cond := .code y_Z_fresh b_Z_fresh 2 none :: bigW
abbrev b_Z_init : ByteArray := prog_7_method_1_code
def y_Z_init : MethodName := ⟨"TwoEndSearchModel", "<init>", "(I)V"⟩
abbrev ws_Z_init : List Cond := .code y_Z_init b_Z_init 2 none :: bigW
abbrev b_Z_isMeasure : ByteArray := prog_7_method_7_code
def y_Z_isMeasure : MethodName := ⟨"TwoEndSearchModel", "isMeasure", "(I)Z"⟩
abbrev ws_Z_isMeasure : List Cond := .code y_Z_isMeasure b_Z_isMeasure 1 (some .boolean) :: bigW
abbrev b_Z_isMove : ByteArray := prog_7_method_6_code
def y_Z_isMove : MethodName := ⟨"TwoEndSearchModel", "isMove", "(I)Z"⟩
abbrev ws_Z_isMove : List Cond := .code y_Z_isMove b_Z_isMove 2 (some .boolean) :: bigW
abbrev b_Z_isPlace : ByteArray := prog_7_method_5_code
def y_Z_isPlace : MethodName := ⟨"TwoEndSearchModel", "isPlace", "(I)Z"⟩
abbrev ws_Z_isPlace : List Cond := .code y_Z_isPlace b_Z_isPlace 2 (some .boolean) :: bigW
abbrev b_Z_label : ByteArray := prog_7_method_12_code
def y_Z_label : MethodName := ⟨"TwoEndSearchModel", "label", "(ZII)Z"⟩
abbrev ws_Z_label : List Cond := .code y_Z_label b_Z_label 4 (some .boolean) :: bigW
abbrev b_Z_most : ByteArray := prog_7_method_20_code
def y_Z_most : MethodName := ⟨"TwoEndSearchModel", "most", "(II)I"⟩
abbrev ws_Z_most : List Cond := .code y_Z_most b_Z_most 3 (some .int) :: bigW
abbrev b_Z_move : ByteArray := prog_7_method_8_code
def y_Z_move : MethodName := ⟨"TwoEndSearchModel", "move", "()I"⟩
abbrev ws_Z_move : List Cond := .code y_Z_move b_Z_move 2 (some .int) :: bigW
abbrev b_Z_numberOf : ByteArray := prog_7_method_18_code
def y_Z_numberOf : MethodName := ⟨"TwoEndSearchModel", "numberOf", "(I)I"⟩
abbrev ws_Z_numberOf : List Cond := .code y_Z_numberOf b_Z_numberOf 2 (some .int) :: bigW
abbrev b_Z_order : ByteArray := prog_7_method_11_code
def y_Z_order : MethodName := ⟨"TwoEndSearchModel", "order", "(I)I"⟩
abbrev ws_Z_order : List Cond := .code y_Z_order b_Z_order 2 (some .int) :: bigW
abbrev b_Z_orderOf : ByteArray := prog_7_method_9_code
def y_Z_orderOf : MethodName := ⟨"TwoEndSearchModel", "orderOf", "(I)I"⟩
abbrev ws_Z_orderOf : List Cond := .code y_Z_orderOf b_Z_orderOf 7 (some .int) :: bigW
abbrev b_Z_put : ByteArray := prog_7_method_19_code
def y_Z_put : MethodName := ⟨"TwoEndSearchModel", "put", "(II)I"⟩
abbrev ws_Z_put : List Cond := .code y_Z_put b_Z_put 4 (some .int) :: bigW
abbrev b_Z_replay : ByteArray := prog_7_method_27_code
def y_Z_replay : MethodName := ⟨"TwoEndSearchModel", "replay", "(J)Z"⟩
abbrev ws_Z_replay : List Cond := .code y_Z_replay b_Z_replay 7 (some .boolean) :: bigW
abbrev b_Z_run : ByteArray := prog_7_method_22_code
def y_Z_run : MethodName := ⟨"TwoEndSearchModel", "run", "(II)I"⟩
abbrev ws_Z_run : List Cond := .code y_Z_run b_Z_run 11 (some .int) :: bigW
abbrev b_Z_seatOf : ByteArray := prog_7_method_17_code
def y_Z_seatOf : MethodName := ⟨"TwoEndSearchModel", "seatOf", "(I)I"⟩
abbrev ws_Z_seatOf : List Cond := .code y_Z_seatOf b_Z_seatOf 3 (some .int) :: bigW
abbrev b_Z_spread : ByteArray := prog_7_method_25_code
def y_Z_spread : MethodName := ⟨"TwoEndSearchModel", "spread", "(II)I"⟩
abbrev ws_Z_spread : List Cond := .code y_Z_spread b_Z_spread 5 (some .int) :: bigW
abbrev b_Z_spreadOut : ByteArray := prog_7_method_21_code
def y_Z_spreadOut : MethodName := ⟨"TwoEndSearchModel", "spreadOut", "(IZ)V"⟩
abbrev ws_Z_spreadOut : List Cond := .code y_Z_spreadOut b_Z_spreadOut 8 none :: bigW
abbrev b_Z_step : ByteArray := prog_7_method_23_code
def y_Z_step : MethodName := ⟨"TwoEndSearchModel", "step", "(IZ)I"⟩
abbrev ws_Z_step : List Cond := .code y_Z_step b_Z_step 3 (some .int) :: bigW
abbrev b_Z_ways : ByteArray := prog_7_method_24_code
def y_Z_ways : MethodName := ⟨"TwoEndSearchModel", "ways", "()J"⟩
abbrev ws_Z_ways : List Cond := .code y_Z_ways b_Z_ways 1 (some .long) :: bigW
def wz_L : List Cond := [.fieldLinkNest "TwoEndSearch$Graph" 38 "TwoEndSearch$Moves" "count" "I" "TwoEndSearch", .fieldLinkNest "TwoEndSearch$Ball" 63 "TwoEndSearch$Moves" "count" "I" "TwoEndSearch", .fieldLinkNest "TwoEndSearch$Search" 137 "TwoEndSearch$Moves" "count" "I" "TwoEndSearch", .methodLinkNest "TwoEndSearch$Moves" 42 ⟨"TwoEndSearch", "firstState", "(I)I"⟩ "TwoEndSearch", .methodLinkNest "TwoEndSearch$Search" 22 ⟨"TwoEndSearch", "arrangements", "(I)I"⟩ "TwoEndSearch", .fieldLinkNest "TwoEndSearch$Ball" 15 "TwoEndSearch$Graph" "moves" "LTwoEndSearch$Moves;" "TwoEndSearch", .fieldLinkNest "TwoEndSearch$Search" 108 "TwoEndSearch$Ball" "far" "[I" "TwoEndSearch", .fieldLinkNest "TwoEndSearch$Search" 134 "TwoEndSearch$Ball" "ways" "[J" "TwoEndSearch", .fieldLinkNest "TwoEndSearch$Search" 111 "TwoEndSearch$Ball" "reached" "[I" "TwoEndSearch", .fieldLinkNest "TwoEndSearch$Search" 131 "TwoEndSearch$Ball" "size" "I" "TwoEndSearch", .fieldLinkNest "TwoEndSearch$Search" 128 "TwoEndSearch$Ball" "layerStart" "I" "TwoEndSearch", .fieldLinkNest "TwoEndSearch$Search" 114 "TwoEndSearch$Ball" "depth" "I" "TwoEndSearch", .fieldLinkNest "TwoEndSearch" 108 "TwoEndSearch$Ball" "depth" "I" "TwoEndSearch", .fieldLinkNest "TwoEndSearch$Search" 146 "TwoEndSearch$Ball" "measure" "I" "TwoEndSearch", .fieldLinkNest "TwoEndSearch$Search" 117 "TwoEndSearch$Ball" "complete" "Z" "TwoEndSearch", .fieldLinkNest "TwoEndSearch" 85 "TwoEndSearch$Search" "row" "[I" "TwoEndSearch", .fieldLinkNest "TwoEndSearch" 125 "TwoEndSearch$Search" "begun" "Z" "TwoEndSearch", .fieldLinkNest "TwoEndSearch" 82 "TwoEndSearch$Search" "length" "I" "TwoEndSearch", .fieldLinkNest "TwoEndSearch" 89 "TwoEndSearch$Search" "ways" "J" "TwoEndSearch", .methodLinkNest "TwoEndSearch$Search" 81 ⟨"TwoEndSearch", "tally", "(II)I"⟩ "TwoEndSearch"]
end
section
/-! CONTRACTS over groups of cells, and the rows of a walk over them -/
abbrev wz_Q : Type := ClassId × ClassId × ClassId
abbrev wz_ty (q : wz_Q) : List (ClassId × FieldType) := [(q.1, .int), (q.2.1, .long), (q.2.2, .array .int)]
def wz_Pre (D : va_G) (q : wz_Q) (av : List Value) (sz : Nat) (gs : wz_G) : Array Value → State → Prop := va_Pc av (fun U => U.heap.size = sz ∧ va_P D vwCl gs.flatten U.heap ∧ va_K D vwCl (wz_ty q) U ∧ va_D (fun _ => True) gs.flatten ∧ wz_N wz_L U)
def wz_At (D : va_G) (q : wz_Q) (A : Nat → Prop) (gs : wz_G) (t : State) : Prop := va_P D vwCl gs.flatten t.heap ∧ va_K D vwCl (wz_ty q) t ∧ va_D A gs.flatten
def wz_Mi (l : Launch) (y : MethodName) (w : List Cond) (rm : Room) (D : va_G) (q : wz_Q) (av : List Value) (gs : wz_G) (post : Int32 → wz_G → Prop) (mc ms : Nat) : Prop :=
  ∀ sz, Met l y w rm (wz_Pre D q av sz gs) (va_Qi post (wz_At D q (va_A gs.flatten sz)) (va_A gs.flatten sz)) mc ms (va_A gs.flatten sz)
def wz_Ml (l : Launch) (y : MethodName) (w : List Cond) (rm : Room) (D : va_G) (q : wz_Q) (av : List Value) (gs : wz_G) (post : Int64 → wz_G → Prop) (mc ms : Nat) : Prop :=
  ∀ sz, Met l y w rm (wz_Pre D q av sz gs) (va_Ql post (wz_At D q (va_A gs.flatten sz)) (va_A gs.flatten sz)) mc ms (va_A gs.flatten sz)
def wz_Mv (l : Launch) (y : MethodName) (w : List Cond) (rm : Room) (D : va_G) (q : wz_Q) (av : List Value) (gs : wz_G) (post : wz_G → Prop) (mc ms : Nat) : Prop :=
  ∀ sz, Met l y w rm (wz_Pre D q av sz gs) (va_Qv post (wz_At D q (va_A gs.flatten sz)) (va_A gs.flatten sz)) mc ms (va_A gs.flatten sz)
def wz_Mr (l : Launch) (y : MethodName) (w : List Cond) (rm : Room) (D : va_G) (q : wz_Q) (av : List Value) (gs : wz_G) (post : Nat → wz_G → Prop) (mc ms : Nat) : Prop :=
  ∀ sz, Met l y w rm (wz_Pre D q av sz gs) (va_Qr (fun u : Nat × wz_G => post u.1 u.2) (fun u a t => a = u.1 ∧ wz_At D q (va_A gs.flatten sz) u.2 t) (va_A gs.flatten sz)) mc ms (va_A gs.flatten sz)
/-- what a walk has at hand -/
def wz_C (p : Program) (s : State) (m : MethodId) (args : Array Value) (meth : Method) (c : Code) (y : MethodName) (cc : ByteArray) (maxL : Nat) (ret : Option FieldType) (D : va_G) (q : wz_Q) (A : Nat → Prop) : Prop :=
  p.tables.exec = Jvm.exec ∧ c.code = cc ∧ meth.sig.returnType = ret ∧ c.maxLocals = maxL ∧ meth.locks = false ∧ s.vm.findClass y.cls = some m.cls ∧ (∀ x ∈ bigW, x.before args s = true) ∧ wz_N wz_L s ∧ va_K D vwCl (wz_ty q) s ∧ (∀ k, s.heap.size ≤ k → A k) ∧ meth.name = y.name
theorem wz_enter {l : Launch} {y : MethodName} {rm : Room} {D : va_G} {q : wz_Q} {av : List Value} {gs : wz_G} {mc ms sz : Nat} {cc : ByteArray} {maxL : Nat} {ret : Option FieldType} {Qc : (Nat → Prop) → Array Value → State → Outcome → State → Prop}
    (hy : plainName y.cls = true) (hav : (lg_sl av).length ≤ maxL)
    (body : ∀ (p : Program) (e : Env) (s : State) (m : MethodId) (below : List Frame) (meth : Method) (c : Code) (A : Nat → Prop) (ls : Array Slot), wz_C p s m av.toArray meth c y cc maxL ret D q A → va_P D vwCl gs.flatten s.heap → va_D A gs.flatten → va_S A s.heap s.heap [] → lv_has ls maxL (lv_args 0 av) →
      W p l e rm s m av.toArray below meth c s.heap [] 0 0 (MQ below (Qc A) av.toArray s mc ms A) (F0 m 0 ls [])) :
    Met l y (.code y cc maxL ret :: bigW) rm (wz_Pre D q av sz gs) (Qc (va_A gs.flatten sz)) mc ms (va_A gs.flatten sz) := by
  refine Met.ofW (cc := cc) (maxL := maxL) (ret := ret) hy rfl ?_
  intro p e s m args below meth c s₁ B hml hv
  obtain ⟨rfl, hsz, hP, hK, hD0, hN⟩ := hv
  have hts : ∀ x ∈ bigW, x.before av.toArray s = true := fun x h => atoms_spec (ws := .code y cc maxL ret :: bigW) B.pre x (List.mem_cons_of_mem _ h)
  have hown : s.vm.findClass y.cls = some m.cls := findClass_of_methodNamed B.named
  have hlocks := B.notSynchronized
  have hnm : meth.name = y.name := (name_of_methodNamed B.named B.method).1
  subst hsz
  have hD := hD0.self (sz := s.heap.size)
  have hA : ∀ k : Nat, s.heap.size ≤ k → va_A gs.flatten s.heap.size k := fun k h => Or.inr h
  rw [lg_entry_eq]
  exact body p e s m below meth c _ _ ⟨B.exec, B.bytes, B.returns, hml, hlocks, hown, hts, hN, hK, hA, hnm⟩ hP hD va_S.rf (lv_entry av hav)
section WZ
variable {p : Program} {l : Launch} {e : Env} {R : Room} {s : State} {m : MethodId} {args : Array Value} {below : List Frame} {meth : Method} {c : Code} {H : Heap} {locs : List Loc} {cells slots : Nat} {Q : State → Prop}
variable {cc : ByteArray} {pc : Nat} {ls : Array Slot} {rest : List Value} {D : va_G} {q : wz_Q} {A : Nat → Prop} {a : Nat} {gs gs' gc gr : wz_G} {H0 : Heap}
theorem wz_iret {post : Int32 → wz_G → Prop} {v : Int32} (hx : p.tables.exec = Jvm.exec) (hb : c.code = cc) (hr : meth.sig.returnType = some .int) (hlocks : meth.locks = false) (hK : va_K D vwCl (wz_ty q) s) (hP : va_P D vwCl gs.flatten H) (hD : va_D A gs.flatten) (hS : va_S A s.heap H locs) (hdg : decode cc pc = .ok (.ireturn, 1)) (hp : post v gs) : W p l e R s m args below meth c H locs cells slots (MQ below (va_Qi post (wz_At D q A) A) args s cells slots A) (F0 m pc ls [.int v]) :=
  W.iret (v := v) hx hb hr (fun _ ht hW => ⟨⟨v, gs, rfl, hp, by rw [ht]; exact hP, va_K.moved hW.alike hK, hD⟩, hS.F ht⟩) hS.2.2 hdg hlocks
theorem wz_zret {post : Int32 → wz_G → Prop} {v : Int32} (hx : p.tables.exec = Jvm.exec) (hb : c.code = cc) (hr : meth.sig.returnType = some .boolean) (hlocks : meth.locks = false) (hK : va_K D vwCl (wz_ty q) s) (hP : va_P D vwCl gs.flatten H) (hD : va_D A gs.flatten) (hS : va_S A s.heap H locs) (hdg : decode cc pc = .ok (.ireturn, 1)) (hz : v = 0 ∨ v = 1) (hp : post v gs) : W p l e R s m args below meth c H locs cells slots (MQ below (va_Qi post (wz_At D q A) A) args s cells slots A) (F0 m pc ls [.int v]) :=
  W.zret (v := v) hx hb hr (by rcases hz with rfl | rfl <;> rfl) (fun _ ht hW => ⟨⟨v, gs, rfl, hp, by rw [ht]; exact hP, va_K.moved hW.alike hK, hD⟩, hS.F ht⟩) hS.2.2 hdg hlocks
theorem wz_lret {post : Int64 → wz_G → Prop} {v : Int64} (hx : p.tables.exec = Jvm.exec) (hb : c.code = cc) (hr : meth.sig.returnType = some .long) (hlocks : meth.locks = false) (hK : va_K D vwCl (wz_ty q) s) (hP : va_P D vwCl gs.flatten H) (hD : va_D A gs.flatten) (hS : va_S A s.heap H locs) (hdg : decode cc pc = .ok (.lreturn, 1)) (hp : post v gs) : W p l e R s m args below meth c H locs cells slots (MQ below (va_Ql post (wz_At D q A) A) args s cells slots A) (F0 m pc ls [.long v]) :=
  W.lret (v := v) hx hb hr (fun _ ht hW => ⟨⟨v, gs, rfl, hp, by rw [ht]; exact hP, va_K.moved hW.alike hK, hD⟩, hS.F ht⟩) hS.2.2 hdg hlocks
theorem wz_vret {post : wz_G → Prop} (hx : p.tables.exec = Jvm.exec) (hb : c.code = cc) (hr : meth.sig.returnType = none) (hlocks : meth.locks = false) (hK : va_K D vwCl (wz_ty q) s) (hP : va_P D vwCl gs.flatten H) (hD : va_D A gs.flatten) (hS : va_S A s.heap H locs) (hdg : decode cc pc = .ok (.return_, 1)) (hp : post gs) : W p l e R s m args below meth c H locs cells slots (MQ below (va_Qv post (wz_At D q A) A) args s cells slots A) (F0 m pc ls []) :=
  W.vret hx hb hr (fun _ ht hW => ⟨⟨gs, rfl, hp, by rw [ht]; exact hP, va_K.moved hW.alike hK, hD⟩, hS.F ht⟩) hS.2.2 hdg hlocks
theorem wz_aret {post : Nat → wz_G → Prop} {v : Nat} {rt : FieldType} (hx : p.tables.exec = Jvm.exec) (hb : c.code = cc) (hr : meth.sig.returnType = some rt) (hrt : ∃ n, rt = .object n) (hlocks : meth.locks = false) (hK : va_K D vwCl (wz_ty q) s) (hP : va_P D vwCl gs.flatten H) (hD : va_D A gs.flatten) (hS : va_S A s.heap H locs) (hdg : decode cc pc = .ok (.areturn, 1)) (hp : post v gs) : W p l e R s m args below meth c H locs cells slots (MQ below (va_Qr (fun u : Nat × wz_G => post u.1 u.2) (fun u a t => a = u.1 ∧ wz_At D q A u.2 t) A) args s cells slots A) (F0 m pc ls [.ref v]) :=
  W.aret hx hb hr (Or.inl hrt) (Or.inr ⟨v, rfl⟩) (fun _ ht hW => ⟨⟨(v, gs), v, rfl, hp, rfl, by rw [ht]; exact hP, va_K.moved hW.alike hK, hD⟩, hS.F ht⟩) hS.2.2 hdg hlocks
theorem wz_topi {x y : Int32} (h : x = y) (k : W p l e R s m args below meth c H locs cells slots Q (F0 m pc ls (.int y :: rest))) : W p l e R s m args below meth c H locs cells slots Q (F0 m pc ls (.int x :: rest)) := h ▸ k
theorem wz_topl {x y : Int64} (h : x = y) (k : W p l e R s m args below meth c H locs cells slots Q (F0 m pc ls (.long y :: rest))) : W p l e R s m args below meth c H locs cells slots Q (F0 m pc ls (.long x :: rest)) := h ▸ k
theorem wz_get (hx : p.tables.exec = Jvm.exec) (hb : c.code = cc) {own ref C : String} {T : u_T} {N ci index : Nat} (hts : ∀ w ∈ bigW, w.before args s = true) (hin : ∀ w ∈ u_ws C T N, w ∈ bigW) (hown : s.vm.findClass own = some m.cls) (hK : va_K D vwCl (wz_ty q) s) (hP : va_P D vwCl gs.flatten H) (gi k : Nat) {g : va_W} {fs : List Value} (hg : gs[gi]? = some g) (he : g[k]? = some (a, .inr (ci, fs))) (hc : vwCl[ci]? = some (C, T, N)) (fk : Nat) (hk : fk < N) (hlink : (Cond.fieldLink own index ref (T fk).2.1 (T fk).2.2.1).before args s = true) (hsame : (T fk).1 = ref) {v : Value} (hv : fs[fk]? = some v) (hdg : decode cc pc = .ok (.getfield index, 3))
    (kk : W p l e R s m args below meth c H locs cells slots Q (F0 m (pc + 3) ls (v :: rest))) : W p l e R s m args below meth c H locs cells slots Q (F0 m pc ls (.ref a :: rest)) :=
  va_get hx hb hts hin hown hK hP _ (wz_get_flat hg he) hc fk hk hlink (fun _ h => by rw [← hsame]; exact h) hv hdg kk
theorem wz_getN (hx : p.tables.exec = Jvm.exec) (hb : c.code = cc) {own ref C host : String} {T : u_T} {N ci index : Nat} (hts : ∀ w ∈ bigW, w.before args s = true) (hin : ∀ w ∈ u_ws C T N, w ∈ bigW) (hown : s.vm.findClass own = some m.cls) (hK : va_K D vwCl (wz_ty q) s) (hP : va_P D vwCl gs.flatten H) (gi k : Nat) {g : va_W} {fs : List Value} (hg : gs[gi]? = some g) (he : g[k]? = some (a, .inr (ci, fs))) (hc : vwCl[ci]? = some (C, T, N)) (fk : Nat) (hk : fk < N) (hlink : va_Nw (.fieldLinkNest own index ref (T fk).2.1 (T fk).2.2.1 host) s) (hsame : (T fk).1 = ref) {v : Value} (hv : fs[fk]? = some v) (hdg : decode cc pc = .ok (.getfield index, 3))
    (kk : W p l e R s m args below meth c H locs cells slots Q (F0 m (pc + 3) ls (v :: rest))) : W p l e R s m args below meth c H locs cells slots Q (F0 m pc ls (.ref a :: rest)) :=
  va_getN hx hb hts hin hown hK hP _ (wz_get_flat hg he) hc fk hk (va_Nw.use rfl hlink) (fun _ h => by rw [← hsame]; exact h) hv hdg kk
theorem wz_put (hx : p.tables.exec = Jvm.exec) (hb : c.code = cc) {own ref C : String} {T : u_T} {N ci index : Nat} (hts : ∀ w ∈ bigW, w.before args s = true) (hin : ∀ w ∈ u_ws C T N, w ∈ bigW) (ty0 : Nat → FieldType) (hty : ∀ k, k < N → parseFieldDescriptor (T k).2.2.1 = some (ty0 k)) (hnm : ∀ a, a < N → ∀ b, b < N → a ≠ b → (T a).2.1 ≠ (T b).2.1) (hown : s.vm.findClass own = some m.cls) (hK : va_K D vwCl (wz_ty q) s) (hP : va_P D vwCl gs.flatten H) (hD : va_D A gs.flatten) (hS : va_S A H0 H locs) (gi k : Nat) {g : va_W} {fs : List Value} (hg : gs[gi]? = some g) (he : g[k]? = some (a, .inr (ci, fs))) (hc : vwCl[ci]? = some (C, T, N)) (fk : Nat) (hk : fk < N) (hlink : (Cond.fieldLink own index ref (T fk).2.1 (T fk).2.2.1).before args s = true) (hsame : (T fk).1 = ref) (hfin : (T fk).2.2.2 = false) {ty : FieldType} {v : Value} (hd : parseFieldDescriptor (T fk).2.2.1 = some ty) (hn : narrow ty v = v) (hfit : fits ty v = true) (hl : fk < fs.length) (hdg : decode cc pc = .ok (.putfield index, 3)) (hset : gs.set gi (g.set k (a, .inr (ci, fs.set fk v))) = gs')
    (kk : ∀ (H1 : Heap) (locs1 : List Loc), va_P D vwCl gs'.flatten H1 → va_D A gs'.flatten → va_S A H0 H1 locs1 → W p l e R s m args below meth c H1 locs1 cells slots Q (F0 m (pc + 3) ls rest)) : W p l e R s m args below meth c H locs cells slots Q (F0 m pc ls (v :: .ref a :: rest)) :=
  va_put hx hb hts hin ty0 hty hnm hown hK hP hD hS _ (wz_get_flat hg he) hc fk hk hlink (fun _ h => by rw [← hsame]; exact h) hfin hd hn hfit hl hdg (fun H1 locs1 h1 h2 h3 => by
    rw [wz_set_flat _ hg (List.getElem?_eq_some_iff.mp he).1, hset] at h1 h2
    exact kk H1 locs1 h1 h2 h3)
theorem wz_putN (hx : p.tables.exec = Jvm.exec) (hb : c.code = cc) {own ref C host : String} {T : u_T} {N ci index : Nat} (hts : ∀ w ∈ bigW, w.before args s = true) (hin : ∀ w ∈ u_ws C T N, w ∈ bigW) (ty0 : Nat → FieldType) (hty : ∀ k, k < N → parseFieldDescriptor (T k).2.2.1 = some (ty0 k)) (hnm : ∀ a, a < N → ∀ b, b < N → a ≠ b → (T a).2.1 ≠ (T b).2.1) (hown : s.vm.findClass own = some m.cls) (hK : va_K D vwCl (wz_ty q) s) (hP : va_P D vwCl gs.flatten H) (hD : va_D A gs.flatten) (hS : va_S A H0 H locs) (gi k : Nat) {g : va_W} {fs : List Value} (hg : gs[gi]? = some g) (he : g[k]? = some (a, .inr (ci, fs))) (hc : vwCl[ci]? = some (C, T, N)) (fk : Nat) (hk : fk < N) (hlink : va_Nw (.fieldLinkNest own index ref (T fk).2.1 (T fk).2.2.1 host) s) (hsame : (T fk).1 = ref) (hfin : (T fk).2.2.2 = false) {ty : FieldType} {v : Value} (hd : parseFieldDescriptor (T fk).2.2.1 = some ty) (hn : narrow ty v = v) (hfit : fits ty v = true) (hl : fk < fs.length) (hdg : decode cc pc = .ok (.putfield index, 3)) (hset : gs.set gi (g.set k (a, .inr (ci, fs.set fk v))) = gs')
    (kk : ∀ (H1 : Heap) (locs1 : List Loc), va_P D vwCl gs'.flatten H1 → va_D A gs'.flatten → va_S A H0 H1 locs1 → W p l e R s m args below meth c H1 locs1 cells slots Q (F0 m (pc + 3) ls rest)) : W p l e R s m args below meth c H locs cells slots Q (F0 m pc ls (v :: .ref a :: rest)) :=
  va_putN hx hb hts hin ty0 hty hnm hown hK hP hD hS _ (wz_get_flat hg he) hc fk hk (va_Nw.use rfl hlink) (fun _ h => by rw [← hsame]; exact h) hfin hd hn hfit hl hdg (fun H1 locs1 h1 h2 h3 => by
    rw [wz_set_flat _ hg (List.getElem?_eq_some_iff.mp he).1, hset] at h1 h2
    exact kk H1 locs1 h1 h2 h3)
theorem wz_putF (hx : p.tables.exec = Jvm.exec) (hb : c.code = cc) {own ref C : String} {T : u_T} {N ci index : Nat} (hts : ∀ w ∈ bigW, w.before args s = true) (hin : ∀ w ∈ u_ws C T N, w ∈ bigW) (ty0 : Nat → FieldType) (hty : ∀ k, k < N → parseFieldDescriptor (T k).2.2.1 = some (ty0 k)) (hnm : ∀ a, a < N → ∀ b, b < N → a ≠ b → (T a).2.1 ≠ (T b).2.1) (hown : s.vm.findClass own = some m.cls) (hK : va_K D vwCl (wz_ty q) s) (hP : va_P D vwCl gs.flatten H) (hD : va_D A gs.flatten) (hS : va_S A H0 H locs) (gi k : Nat) {g : va_W} {fs : List Value} (hg : gs[gi]? = some g) (he : g[k]? = some (a, .inr (ci, fs))) (hc : vwCl[ci]? = some (C, T, N)) (fk : Nat) (hk : fk < N) (hlink : (Cond.fieldLink own index ref (T fk).2.1 (T fk).2.2.1).before args s = true) (hsame : (T fk).1 = ref) (hfin : (T fk).2.2.2 = true) (hinit : meth.name = "<init>") (hdecl : (T fk).1 = own) {ty : FieldType} {v : Value} (hd : parseFieldDescriptor (T fk).2.2.1 = some ty) (hn : narrow ty v = v) (hfit : fits ty v = true) (hl : fk < fs.length) (hdg : decode cc pc = .ok (.putfield index, 3)) (hset : gs.set gi (g.set k (a, .inr (ci, fs.set fk v))) = gs')
    (kk : ∀ (H1 : Heap) (locs1 : List Loc), va_P D vwCl gs'.flatten H1 → va_D A gs'.flatten → va_S A H0 H1 locs1 → W p l e R s m args below meth c H1 locs1 cells slots Q (F0 m (pc + 3) ls rest)) : W p l e R s m args below meth c H locs cells slots Q (F0 m pc ls (v :: .ref a :: rest)) :=
  va_putF hx hb hts hin ty0 hty hnm hown hK hP hD hS _ (wz_get_flat hg he) hc fk hk hlink (fun _ h => by rw [← hsame]; exact h) hfin hinit hdecl hd hn hfit hl hdg (fun H1 locs1 h1 h2 h3 => by
    rw [wz_set_flat _ hg (List.getElem?_eq_some_iff.mp he).1, hset] at h1 h2
    exact kk H1 locs1 h1 h2 h3)
theorem wz_iald (hx : p.tables.exec = Jvm.exec) (hb : c.code = cc) (hK : va_K D vwCl (wz_ty q) s) (hP : va_P D vwCl gs.flatten H) (gi k : Nat) {g : va_W} {n j : Nat} {f : Nat → Int32} (hg : gs[gi]? = some g) (ha : g[k]? = some (a, .inl (q.1, n, .inl f))) (hj : j < n) (hn : n < 2 ^ 31) (hdg : decode cc pc = .ok (.iaload, 1))
    (kk : W p l e R s m args below meth c H locs cells slots Q (F0 m (pc + 1) ls (.int (f j) :: rest))) : W p l e R s m args below meth c H locs cells slots Q (F0 m pc ls (.int (nI j) :: .ref a :: rest)) :=
  va_iald hx hb hK hP _ 0 (wz_get_flat hg ha) rfl (vp_in_nI hj hn) hdg (by rw [nI_clamp (Nat.lt_trans hj hn)]; exact kk)
theorem wz_lald (hx : p.tables.exec = Jvm.exec) (hb : c.code = cc) (hK : va_K D vwCl (wz_ty q) s) (hP : va_P D vwCl gs.flatten H) (gi k : Nat) {g : va_W} {n j : Nat} {f : Nat → Int64} (hg : gs[gi]? = some g) (ha : g[k]? = some (a, .inl (q.2.1, n, .inr (.inl f)))) (hj : j < n) (hn : n < 2 ^ 31) (hdg : decode cc pc = .ok (.laload, 1))
    (kk : W p l e R s m args below meth c H locs cells slots Q (F0 m (pc + 1) ls (.long (f j) :: rest))) : W p l e R s m args below meth c H locs cells slots Q (F0 m pc ls (.int (nI j) :: .ref a :: rest)) :=
  va_lald hx hb hK hP _ 1 (wz_get_flat hg ha) rfl (vp_in_nI hj hn) hdg (by rw [nI_clamp (Nat.lt_trans hj hn)]; exact kk)
theorem wz_iast (hx : p.tables.exec = Jvm.exec) (hb : c.code = cc) (hK : va_K D vwCl (wz_ty q) s) (hP : va_P D vwCl gs.flatten H) (hD : va_D A gs.flatten) (hS : va_S A H0 H locs) (gi k : Nat) {g : va_W} {n j : Nat} {f : Nat → Int32} {x : Int32} (hg : gs[gi]? = some g) (ha : g[k]? = some (a, .inl (q.1, n, .inl f))) (hj : j < n) (hn : n < 2 ^ 31) (hdg : decode cc pc = .ok (.iastore, 1)) (hset : gs.set gi (g.set k (a, .inl (q.1, n, .inl (upd f j x)))) = gs')
    (kk : ∀ (H1 : Heap) (locs1 : List Loc), va_P D vwCl gs'.flatten H1 → va_D A gs'.flatten → va_S A H0 H1 locs1 → W p l e R s m args below meth c H1 locs1 cells slots Q (F0 m (pc + 1) ls rest)) : W p l e R s m args below meth c H locs cells slots Q (F0 m pc ls (.int x :: .int (nI j) :: .ref a :: rest)) :=
  va_iast hx hb hK hP hD hS _ 0 (wz_get_flat hg ha) rfl (vp_in_nI hj hn) hdg (fun H1 locs1 h1 h2 h3 => by
    rw [nI_clamp (Nat.lt_trans hj hn), wz_set_flat _ hg (List.getElem?_eq_some_iff.mp ha).1, hset] at h1 h2
    exact kk H1 locs1 h1 h2 h3)
theorem wz_last (hx : p.tables.exec = Jvm.exec) (hb : c.code = cc) (hK : va_K D vwCl (wz_ty q) s) (hP : va_P D vwCl gs.flatten H) (hD : va_D A gs.flatten) (hS : va_S A H0 H locs) (gi k : Nat) {g : va_W} {n j : Nat} {f : Nat → Int64} {x : Int64} (hg : gs[gi]? = some g) (ha : g[k]? = some (a, .inl (q.2.1, n, .inr (.inl f)))) (hj : j < n) (hn : n < 2 ^ 31) (hdg : decode cc pc = .ok (.lastore, 1)) (hset : gs.set gi (g.set k (a, .inl (q.2.1, n, .inr (.inl (vp_updL f j x))))) = gs')
    (kk : ∀ (H1 : Heap) (locs1 : List Loc), va_P D vwCl gs'.flatten H1 → va_D A gs'.flatten → va_S A H0 H1 locs1 → W p l e R s m args below meth c H1 locs1 cells slots Q (F0 m (pc + 1) ls rest)) : W p l e R s m args below meth c H locs cells slots Q (F0 m pc ls (.long x :: .int (nI j) :: .ref a :: rest)) :=
  va_last hx hb hK hP hD hS _ 1 (wz_get_flat hg ha) rfl (vp_in_nI hj hn) hdg (fun H1 locs1 h1 h2 h3 => by
    rw [nI_clamp (Nat.lt_trans hj hn), wz_set_flat _ hg (List.getElem?_eq_some_iff.mp ha).1, hset] at h1 h2
    exact kk H1 locs1 h1 h2 h3)
theorem wz_alen (hx : p.tables.exec = Jvm.exec) (hb : c.code = cc) (hK : va_K D vwCl (wz_ty q) s) (hP : va_P D vwCl gs.flatten H) (gi k : Nat) {g : va_W} {n : Nat} {f : Nat → Int32} (hg : gs[gi]? = some g) (ha : g[k]? = some (a, .inl (q.1, n, .inl f))) (hdg : decode cc pc = .ok (.arraylength, 1))
    (kk : W p l e R s m args below meth c H locs cells slots Q (F0 m (pc + 1) ls (.int (nI n) :: rest))) : W p l e R s m args below meth c H locs cells slots Q (F0 m pc ls (.ref a :: rest)) :=
  va_alen hx hb hK hP _ 0 (wz_get_flat hg ha) rfl (v := nI n) rfl hdg kk
/-- the outer array of a grid: n rows at the addresses r -/
def wz_out (n : Nat) (r : Nat → Nat) : vp_A := (n, .inr (.inr (.inr (.inr (fun i => if i < n then some (r i) else none)))))
theorem wz_aald (hx : p.tables.exec = Jvm.exec) (hb : c.code = cc) (hK : va_K D vwCl (wz_ty q) s) (hP : va_P D vwCl gs.flatten H) (gi k : Nat) {g : va_W} {n j : Nat} {r : Nat → Nat} (hg : gs[gi]? = some g) (ha : g[k]? = some (a, .inl (q.2.2, wz_out n r))) (hj : j < n) (hn : n < 2 ^ 31) (hdg : decode cc pc = .ok (.aaload, 1))
    (kk : W p l e R s m args below meth c H locs cells slots Q (F0 m (pc + 1) ls (.ref (r j) :: rest))) : W p l e R s m args below meth c H locs cells slots Q (F0 m pc ls (.int (nI j) :: .ref a :: rest)) := by
  have hin := vp_in_nI hj hn
  have hcl := nI_clamp (Nat.lt_trans hj hn)
  have hrd : va_rf ((fun i => if i < n then some (r i) else none) j) = .ref (r j) := by
    show va_rf (if j < n then some (r j) else none) = _
    rw [if_pos hj]
    rfl
  refine W.aald (v := .ref (r j)) (ty := .array .int) hx hb (hP _ _ (wz_get_flat hg ha)) ((hK.2 2 _ rfl).1 n (fun i => va_rf (if i < n then some (r i) else none))) rfl (fun q => by cases q) (by show ¬ (nI j < 0 ∨ (arrV _ _ _).slots.size ≤ _); rw [arrV_size]; exact hin) (by show (arrV q.2.2 n (fun i => va_rf (if i < n then some (r i) else none))).slots[(nI j).toNatClampNeg]? = _; rw [hcl, arrV_read _ _ hj]; exact congrArg some hrd) rfl rfl hdg kk
/-! branches on naturals -/
theorem wz_ge {x y : Nat} (hx : p.tables.exec = Jvm.exec) (hb : c.code = cc) {off : Int} {tgt : Nat} (hdg : decode cc pc = .ok (.if_icmp .ge off, 3)) (ht : (pc : Int) + off = (tgt : Int)) (bx : x < 2 ^ 31) (by_ : y < 2 ^ 31) (kt : y ≤ x → W p l e R s m args below meth c H locs cells slots Q (F0 m tgt ls rest)) (kf : x < y → W p l e R s m args below meth c H locs cells slots Q (F0 m (pc + 3) ls rest)) : W p l e R s m args below meth c H locs cells slots Q (F0 m pc ls (.int (nI y) :: .int (nI x) :: rest)) :=
  lv_icmp_ge hx hb hdg ht (fun h => kt ((nI_leI by_ bx).mp h)) (fun h => kf (Nat.lt_of_not_le (fun z => h ((nI_leI by_ bx).mpr z))))
theorem wz_lt {x y : Nat} (hx : p.tables.exec = Jvm.exec) (hb : c.code = cc) {off : Int} {tgt : Nat} (hdg : decode cc pc = .ok (.if_icmp .lt off, 3)) (ht : (pc : Int) + off = (tgt : Int)) (bx : x < 2 ^ 31) (by_ : y < 2 ^ 31) (kt : x < y → W p l e R s m args below meth c H locs cells slots Q (F0 m tgt ls rest)) (kf : y ≤ x → W p l e R s m args below meth c H locs cells slots Q (F0 m (pc + 3) ls rest)) : W p l e R s m args below meth c H locs cells slots Q (F0 m pc ls (.int (nI y) :: .int (nI x) :: rest)) :=
  lv_icmp_lt hx hb hdg ht (fun h => kt ((nI_ltI bx by_).mp h)) (fun h => kf (Nat.le_of_not_lt (fun z => h ((nI_ltI bx by_).mpr z))))
theorem wz_gt {x y : Nat} (hx : p.tables.exec = Jvm.exec) (hb : c.code = cc) {off : Int} {tgt : Nat} (hdg : decode cc pc = .ok (.if_icmp .gt off, 3)) (ht : (pc : Int) + off = (tgt : Int)) (bx : x < 2 ^ 31) (by_ : y < 2 ^ 31) (kt : y < x → W p l e R s m args below meth c H locs cells slots Q (F0 m tgt ls rest)) (kf : x ≤ y → W p l e R s m args below meth c H locs cells slots Q (F0 m (pc + 3) ls rest)) : W p l e R s m args below meth c H locs cells slots Q (F0 m pc ls (.int (nI y) :: .int (nI x) :: rest)) :=
  lv_icmp_gt hx hb hdg ht (fun h => kt ((nI_ltI by_ bx).mp h)) (fun h => kf (Nat.le_of_not_lt (fun z => h ((nI_ltI by_ bx).mpr z))))
theorem wz_le {x y : Nat} (hx : p.tables.exec = Jvm.exec) (hb : c.code = cc) {off : Int} {tgt : Nat} (hdg : decode cc pc = .ok (.if_icmp .le off, 3)) (ht : (pc : Int) + off = (tgt : Int)) (bx : x < 2 ^ 31) (by_ : y < 2 ^ 31) (kt : x ≤ y → W p l e R s m args below meth c H locs cells slots Q (F0 m tgt ls rest)) (kf : y < x → W p l e R s m args below meth c H locs cells slots Q (F0 m (pc + 3) ls rest)) : W p l e R s m args below meth c H locs cells slots Q (F0 m pc ls (.int (nI y) :: .int (nI x) :: rest)) :=
  lv_icmp_le hx hb hdg ht (fun h => kt ((nI_leI bx by_).mp h)) (fun h => kf (Nat.lt_of_not_le (fun z => h ((nI_leI bx by_).mpr z))))
theorem wz_eq {x y : Nat} (hx : p.tables.exec = Jvm.exec) (hb : c.code = cc) {off : Int} {tgt : Nat} (hdg : decode cc pc = .ok (.if_icmp .eq off, 3)) (ht : (pc : Int) + off = (tgt : Int)) (bx : x < 2 ^ 31) (by_ : y < 2 ^ 31) (kt : x = y → W p l e R s m args below meth c H locs cells slots Q (F0 m tgt ls rest)) (kf : x ≠ y → W p l e R s m args below meth c H locs cells slots Q (F0 m (pc + 3) ls rest)) : W p l e R s m args below meth c H locs cells slots Q (F0 m pc ls (.int (nI y) :: .int (nI x) :: rest)) :=
  lv_icmp_eq hx hb hdg ht (fun h => kt ((nI_eq bx by_).mp h)) (fun h => kf (fun z => h ((nI_eq bx by_).mpr z)))
theorem wz_ne {x y : Nat} (hx : p.tables.exec = Jvm.exec) (hb : c.code = cc) {off : Int} {tgt : Nat} (hdg : decode cc pc = .ok (.if_icmp .ne off, 3)) (ht : (pc : Int) + off = (tgt : Int)) (bx : x < 2 ^ 31) (by_ : y < 2 ^ 31) (kt : x ≠ y → W p l e R s m args below meth c H locs cells slots Q (F0 m tgt ls rest)) (kf : x = y → W p l e R s m args below meth c H locs cells slots Q (F0 m (pc + 3) ls rest)) : W p l e R s m args below meth c H locs cells slots Q (F0 m pc ls (.int (nI y) :: .int (nI x) :: rest)) :=
  lv_icmp_ne hx hb hdg ht (fun h => kt (fun z => h ((nI_eq bx by_).mpr z))) (fun h => kf ((nI_eq bx by_).mp h))
/-! calls -/
theorem wz_good {y : MethodName} {b : ByteArray} {n : Nat} {ret : Option FieldType} (h : Cond.code y b n ret ∈ bigW) : GoodIn bigW (.code y b n ret :: bigW) := by
  intro w hw
  have hm : w ∈ bigW := by
    rcases List.mem_cons.mp hw with e | e
    · rw [e]; exact h
    · exact e
  exact ⟨hm, bigW_good w hm⟩
theorem wz_goodV {own C : String} {idx : Nat} {y : MethodName} {b : ByteArray} {n : Nat} {ret : Option FieldType} (h1 : Cond.methodLink own idx y ∈ bigW) (h2 : Cond.instanceMethod y ∈ bigW) (h3 : Cond.selects C y y ∈ bigW) (h4 : Cond.initialized C ∈ bigW) (h : Cond.code y b n ret ∈ bigW) : GoodIn bigW (wsV own idx C y (.code y b n ret :: bigW)) := by
  intro w hw
  have hm : w ∈ bigW := by
    rcases List.mem_append.mp hw with e | e
    · simp only [List.mem_cons, List.not_mem_nil, or_false] at e
      rcases e with e | e | e | e <;> rw [e] <;> assumption
    · exact (wz_good h w e).1
  exact ⟨hm, bigW_good w hm⟩
theorem wz_goodS {own : String} {idx : Nat} {y : MethodName} {b : ByteArray} {n : Nat} {ret : Option FieldType} (h1 : Cond.methodLink own idx y ∈ bigW) (h2 : Cond.static y ∈ bigW) (h4 : Cond.initialized y.cls ∈ bigW) (h : Cond.code y b n ret ∈ bigW) : GoodIn bigW (va_wsS own idx y (.code y b n ret :: bigW)) := by
  intro w hw
  have hm : w ∈ bigW := by
    rcases List.mem_append.mp hw with e | e
    · simp only [List.mem_cons, List.not_mem_nil, or_false] at e
      rcases e with e | e | e <;> rw [e] <;> assumption
    · exact (wz_good h w e).1
  exact ⟨hm, bigW_good w hm⟩
/-- the callee's groups, and the rest -/
def wz_Sp (D : va_G) (A : Nat → Prop) (gc gr : wz_G) (H : Heap) : Prop := va_P D vwCl (gc.flatten ++ gr.flatten) H ∧ va_D A (gc.flatten ++ gr.flatten)
theorem wz_split {n : Nat} (isC isR : List Nat) (hn : gs.length = n) (hp : (isC ++ isR).Perm (List.range n)) (hC : isC.map (fun i => gs[i]?) = gc.map some) (hR : isR.map (fun i => gs[i]?) = gr.map some) (hP : va_P D vwCl gs.flatten H) (hD : va_D A gs.flatten) : wz_Sp D A gc gr H := by
  have h := wz_ord (gs' := gc ++ gr) (isC ++ isR) hn hp (by rw [List.map_append, List.map_append, hC, hR]) hP hD
  rw [List.flatten_append] at h
  exact h
theorem wz_blind {av : List Value} {sz : Nat} (hL : wz_L.all wz_isN = true) : FrameBlind (wz_Pre D q av sz gc) := by
  intro a U g mk h
  obtain ⟨h1, h2, h3, h4, h5, h6⟩ := h
  exact ⟨h1, h2, h3, va_K.moved (u := U) (U := U.calling g mk a) (Vm.Alike.refl U.vm) h4, h5, wz_N.same (u := U) (U := U.calling g mk a) hL rfl h6⟩
theorem wz_preS {As : List Value} (hN : wz_N wz_L s) (hK : va_K D vwCl (wz_ty q) s) (hQ : wz_Sp D A gc gr H) (hL : wz_L.all wz_isN = true) : PreS s H (wz_Pre D q As H.size gc) As :=
  ⟨wz_blind hL, fun U hU hW => ⟨rfl, by rw [hU], by rw [hU]; exact wz_P_left hQ.1, va_K.moved hW.alike hK, (wz_D_left hQ.2).weaken (fun _ _ _ _ => trivial), hN.warm hL hW⟩⟩
theorem wz_preV {As : List Value} {C : String} {T : u_T} {N ci b gi k : Nat} {g : va_W} {fs : List Value} (hN : wz_N wz_L s) (hK : va_K D vwCl (wz_ty q) s) (hQ : wz_Sp D A gc gr H) (hL : wz_L.all wz_isN = true) (hg : gc[gi]? = some g) (he : g[k]? = some (b, .inr (ci, fs))) (hc : vwCl[ci]? = some (C, T, N)) : PreV s H C b (wz_Pre D q (.ref b :: As) H.size gc) As :=
  ⟨wz_blind hL, va_recv (q := (C, T, N)) hK (wz_P_left hQ.1) hc (wz_get_flat hg he), (wz_preS (As := .ref b :: As) hN hK hQ hL).2⟩
variable {mc ms : Nat} {st0 : List Value} {av : Array Value}
theorem wz_calli {post : Int32 → wz_G → Prop} (hr : va_Run p l e R s m args below meth c H locs cells slots mc ms (F0 m pc ls st0) rest (va_Qi post (wz_At D q (va_A gc.flatten H.size)) (va_A gc.flatten H.size) av) (va_A gc.flatten H.size)) (hQ : wz_Sp D A gc gr H) (hS : va_S A H0 H locs) (hA : ∀ k, H0.size ≤ k → A k)
    (kk : ∀ (r : Int32) (gx : wz_G) (H1 : Heap) (locs1 : List Loc), post r gx → va_P D vwCl (gx ++ gr).flatten H1 → va_D A (gx ++ gr).flatten → va_S A H0 H1 locs1 → W p l e R s m args below meth c H1 locs1 (cells + mc) (slots + ms) Q (F0 m (pc + 3) ls (.int r :: rest))) : W p l e R s m args below meth c H locs cells slots Q (F0 m pc ls st0) := by
  have hF : ∀ k, va_A gc.flatten H.size k → A k := fun k h => by
    rcases h with ⟨i, x, h⟩ | h
    · exact hQ.2.2 i (k, x) (by rw [List.getElem?_append_left (List.getElem?_eq_some_iff.mp h).1]; exact h)
    · exact hA k (Nat.le_trans hS.1 h)
  refine va_calli hr hS (fun k _ h => hF k h) hF (fun r u t H1 locs1 ht _ hp hB hz hk hS1 => ?_)
  obtain ⟨b1, -, b3⟩ := hB
  rw [ht] at b1
  have h := wz_join hQ.1 hQ.2 hk hF b1 b3
  rw [← List.flatten_append] at h
  exact kk r u H1 locs1 hp h.1 h.2 hS1
theorem wz_calll {post : Int64 → wz_G → Prop} (hr : va_Run p l e R s m args below meth c H locs cells slots mc ms (F0 m pc ls st0) rest (va_Ql post (wz_At D q (va_A gc.flatten H.size)) (va_A gc.flatten H.size) av) (va_A gc.flatten H.size)) (hQ : wz_Sp D A gc gr H) (hS : va_S A H0 H locs) (hA : ∀ k, H0.size ≤ k → A k)
    (kk : ∀ (r : Int64) (gx : wz_G) (H1 : Heap) (locs1 : List Loc), post r gx → va_P D vwCl (gx ++ gr).flatten H1 → va_D A (gx ++ gr).flatten → va_S A H0 H1 locs1 → W p l e R s m args below meth c H1 locs1 (cells + mc) (slots + ms) Q (F0 m (pc + 3) ls (.long r :: rest))) : W p l e R s m args below meth c H locs cells slots Q (F0 m pc ls st0) := by
  have hF : ∀ k, va_A gc.flatten H.size k → A k := fun k h => by
    rcases h with ⟨i, x, h⟩ | h
    · exact hQ.2.2 i (k, x) (by rw [List.getElem?_append_left (List.getElem?_eq_some_iff.mp h).1]; exact h)
    · exact hA k (Nat.le_trans hS.1 h)
  refine va_calll hr hS (fun k _ h => hF k h) hF (fun r u t H1 locs1 ht _ hp hB hz hk hS1 => ?_)
  obtain ⟨b1, -, b3⟩ := hB
  rw [ht] at b1
  have h := wz_join hQ.1 hQ.2 hk hF b1 b3
  rw [← List.flatten_append] at h
  exact kk r u H1 locs1 hp h.1 h.2 hS1
theorem wz_callv {post : wz_G → Prop} (hr : va_Run p l e R s m args below meth c H locs cells slots mc ms (F0 m pc ls st0) rest (va_Qv post (wz_At D q (va_A gc.flatten H.size)) (va_A gc.flatten H.size) av) (va_A gc.flatten H.size)) (hQ : wz_Sp D A gc gr H) (hS : va_S A H0 H locs) (hA : ∀ k, H0.size ≤ k → A k)
    (kk : ∀ (gx : wz_G) (H1 : Heap) (locs1 : List Loc), post gx → va_P D vwCl (gx ++ gr).flatten H1 → va_D A (gx ++ gr).flatten → va_S A H0 H1 locs1 → W p l e R s m args below meth c H1 locs1 (cells + mc) (slots + ms) Q (F0 m (pc + 3) ls rest)) : W p l e R s m args below meth c H locs cells slots Q (F0 m pc ls st0) := by
  have hF : ∀ k, va_A gc.flatten H.size k → A k := fun k h => by
    rcases h with ⟨i, x, h⟩ | h
    · exact hQ.2.2 i (k, x) (by rw [List.getElem?_append_left (List.getElem?_eq_some_iff.mp h).1]; exact h)
    · exact hA k (Nat.le_trans hS.1 h)
  refine va_callv hr hS (fun k _ h => hF k h) hF (fun u t H1 locs1 ht _ hp hB hz hk hS1 => ?_)
  obtain ⟨b1, -, b3⟩ := hB
  rw [ht] at b1
  have h := wz_join hQ.1 hQ.2 hk hF b1 b3
  rw [← List.flatten_append] at h
  exact kk u H1 locs1 hp h.1 h.2 hS1
theorem wz_callr {post : Nat → wz_G → Prop} (hr : va_Run p l e R s m args below meth c H locs cells slots mc ms (F0 m pc ls st0) rest (va_Qr (fun u : Nat × wz_G => post u.1 u.2) (fun u a t => a = u.1 ∧ wz_At D q (va_A gc.flatten H.size) u.2 t) (va_A gc.flatten H.size) av) (va_A gc.flatten H.size)) (hQ : wz_Sp D A gc gr H) (hS : va_S A H0 H locs) (hA : ∀ k, H0.size ≤ k → A k)
    (kk : ∀ (r : Nat) (gx : wz_G) (H1 : Heap) (locs1 : List Loc), post r gx → va_P D vwCl (gx ++ gr).flatten H1 → va_D A (gx ++ gr).flatten → va_S A H0 H1 locs1 → W p l e R s m args below meth c H1 locs1 (cells + mc) (slots + ms) Q (F0 m (pc + 3) ls (.ref r :: rest))) : W p l e R s m args below meth c H locs cells slots Q (F0 m pc ls st0) := by
  have hF : ∀ k, va_A gc.flatten H.size k → A k := fun k h => by
    rcases h with ⟨i, x, h⟩ | h
    · exact hQ.2.2 i (k, x) (by rw [List.getElem?_append_left (List.getElem?_eq_some_iff.mp h).1]; exact h)
    · exact hA k (Nat.le_trans hS.1 h)
  refine va_callr hr hS (fun k _ h => hF k h) hF (fun u ra t H1 locs1 ht _ hp hB hz hk hS1 => ?_)
  obtain ⟨e1, b1, -, b3⟩ := hB
  subst e1
  rw [ht] at b1
  have h := wz_join hQ.1 hQ.2 hk hF b1 b3
  rw [← List.flatten_append] at h
  exact kk u.1 u.2 H1 locs1 hp h.1 h.2 hS1
end WZ
end
section
/-! MODULE Moves: its cells, its contracts -/
theorem wz_L_ok : wz_L.all wz_isN = true := by decide +kernel
theorem wz_rows_iset {num n w j : Nat} {r : Nat → Nat} {M : Nat → Nat → Int32} {x : Int32} {c : ClassId} : (wz_rows num r (fun i => .inl (c, n, .inl (M i)))).set w (r w, .inl (c, n, .inl (upd (M w) j x))) = wz_rows num r (fun i => .inl (c, n, .inl (pz_up M w (upd (M w) j x) i))) := by
  rw [wz_rows_set]
  refine wz_rows_congr (fun i _ => ?_)
  by_cases h : i = w
  · subst h; rw [pz_up_s, pz_up_s]
  · rw [pz_up_n _ _ h, pz_up_n _ _ h]
def wz_bit (v : Int32) (P : Prop) : Prop := (v = 1 ∧ P) ∨ (v = 0 ∧ ¬ P)
theorem wz_bit_lt {x : Int32} {k : Nat} (h : x < 0) (hk : k < 2 ^ 31 := by omega) : wz_bit (nI 0) (∃ j, j < k ∧ x = nI j) := Or.inr ⟨rfl, fun ⟨j, hj, e⟩ => nI_pos (Nat.lt_trans hj hk) (e ▸ h)⟩
theorem wz_bit_ge {x : Int32} {k : Nat} (hk : k < 2 ^ 31) (h : nI k ≤ x) : wz_bit (nI 0) (∃ j, j < k ∧ x = nI j) := Or.inr ⟨rfl, fun ⟨j, hj, e⟩ => nI_ge hj hk (e ▸ h)⟩
theorem wz_bit_in {x : Int32} {k : Nat} (hk : k < 2 ^ 31) (h1 : ¬ x < 0) (h2 : ¬ nI k ≤ x) : wz_bit (nI 1) (∃ j, j < k ∧ x = nI j) := Or.inl ⟨rfl, by
  rcases pk_ix x hk with h | h | h
  · exact absurd h h1
  · exact absurd h h2
  · exact h⟩
def mv_W (q : wz_Q) (a : Nat → Nat) (n : Nat) (k : Nat) (r : Nat → Nat) (f : Nat → Int32) : va_W := [(a 0, .inr (0, [.int (nI n), .ref (a 1), .ref (a 2), .int (nI k)])), (a 1, .inl (q.2.2, wz_out 12 r)), (a 2, .inl (q.1, 6, .inl f))]
theorem d_M_has_0 : decode b_M_has 0 = .ok (.iload_n 1, 1) := by decide +kernel
theorem d_M_has_1 : decode b_M_has 1 = .ok (.ifCond .lt 15, 3) := by decide +kernel
theorem d_M_has_4 : decode b_M_has 4 = .ok (.iload_n 1, 1) := by decide +kernel
theorem d_M_has_5 : decode b_M_has 5 = .ok (.aload_n 0, 1) := by decide +kernel
theorem d_M_has_6 : decode b_M_has 6 = .ok (.getfield 24, 3) := by decide +kernel
theorem d_M_has_9 : decode b_M_has 9 = .ok (.if_icmp .ge 7, 3) := by decide +kernel
theorem d_M_has_12 : decode b_M_has 12 = .ok (.iconst 1, 1) := by decide +kernel
theorem d_M_has_13 : decode b_M_has 13 = .ok (.goto 4, 3) := by decide +kernel
theorem d_M_has_16 : decode b_M_has 16 = .ok (.iconst 0, 1) := by decide +kernel
theorem d_M_has_17 : decode b_M_has 17 = .ok (.ireturn, 1) := by decide +kernel
theorem d_M_isPlace_0 : decode b_M_isPlace 0 = .ok (.iload_n 1, 1) := by decide +kernel
theorem d_M_isPlace_1 : decode b_M_isPlace 1 = .ok (.ifCond .lt 15, 3) := by decide +kernel
theorem d_M_isPlace_4 : decode b_M_isPlace 4 = .ok (.iload_n 1, 1) := by decide +kernel
theorem d_M_isPlace_5 : decode b_M_isPlace 5 = .ok (.aload_n 0, 1) := by decide +kernel
theorem d_M_isPlace_6 : decode b_M_isPlace 6 = .ok (.getfield 20, 3) := by decide +kernel
theorem d_M_isPlace_9 : decode b_M_isPlace 9 = .ok (.if_icmp .ge 7, 3) := by decide +kernel
theorem d_M_isPlace_12 : decode b_M_isPlace 12 = .ok (.iconst 1, 1) := by decide +kernel
theorem d_M_isPlace_13 : decode b_M_isPlace 13 = .ok (.goto 4, 3) := by decide +kernel
theorem d_M_isPlace_16 : decode b_M_isPlace 16 = .ok (.iconst 0, 1) := by decide +kernel
theorem d_M_isPlace_17 : decode b_M_isPlace 17 = .ok (.ireturn, 1) := by decide +kernel
theorem d_M_orderOf_0 : decode b_M_orderOf 0 = .ok (.aload_n 0, 1) := by decide +kernel
theorem d_M_orderOf_1 : decode b_M_orderOf 1 = .ok (.getfield 16, 3) := by decide +kernel
theorem d_M_orderOf_4 : decode b_M_orderOf 4 = .ok (.iload_n 1, 1) := by decide +kernel
theorem d_M_orderOf_5 : decode b_M_orderOf 5 = .ok (.iaload, 1) := by decide +kernel
theorem d_M_orderOf_6 : decode b_M_orderOf 6 = .ok (.ireturn, 1) := by decide +kernel
theorem d_M_mostTimes_0 : decode b_M_mostTimes 0 = .ok (.iload_n 1, 1) := by decide +kernel
theorem d_M_mostTimes_1 : decode b_M_mostTimes 1 = .ok (.ifCond .ne 7, 3) := by decide +kernel
theorem d_M_mostTimes_4 : decode b_M_mostTimes 4 = .ok (.iconst 1, 1) := by decide +kernel
theorem d_M_mostTimes_5 : decode b_M_mostTimes 5 = .ok (.goto 11, 3) := by decide +kernel
theorem d_M_mostTimes_8 : decode b_M_mostTimes 8 = .ok (.aload_n 0, 1) := by decide +kernel
theorem d_M_mostTimes_9 : decode b_M_mostTimes 9 = .ok (.getfield 16, 3) := by decide +kernel
theorem d_M_mostTimes_12 : decode b_M_mostTimes 12 = .ok (.iload_n 2, 1) := by decide +kernel
theorem d_M_mostTimes_13 : decode b_M_mostTimes 13 = .ok (.iaload, 1) := by decide +kernel
theorem d_M_mostTimes_14 : decode b_M_mostTimes 14 = .ok (.iconst 1, 1) := by decide +kernel
theorem d_M_mostTimes_15 : decode b_M_mostTimes 15 = .ok (.isub, 1) := by decide +kernel
theorem d_M_mostTimes_16 : decode b_M_mostTimes 16 = .ok (.ireturn, 1) := by decide +kernel
theorem d_M_dropAll_0 : decode b_M_dropAll 0 = .ok (.aload_n 0, 1) := by decide +kernel
theorem d_M_dropAll_1 : decode b_M_dropAll 1 = .ok (.iconst 0, 1) := by decide +kernel
theorem d_M_dropAll_2 : decode b_M_dropAll 2 = .ok (.putfield 24, 3) := by decide +kernel
theorem d_M_dropAll_5 : decode b_M_dropAll 5 = .ok (.return_, 1) := by decide +kernel
theorem d_M_aim_0 : decode b_M_aim 0 = .ok (.aload_n 0, 1) := by decide +kernel
theorem d_M_aim_1 : decode b_M_aim 1 = .ok (.getfield 11, 3) := by decide +kernel
theorem d_M_aim_4 : decode b_M_aim 4 = .ok (.iload_n 1, 1) := by decide +kernel
theorem d_M_aim_5 : decode b_M_aim 5 = .ok (.aaload, 1) := by decide +kernel
theorem d_M_aim_6 : decode b_M_aim 6 = .ok (.iload_n 2, 1) := by decide +kernel
theorem d_M_aim_7 : decode b_M_aim 7 = .ok (.iload_n 3, 1) := by decide +kernel
theorem d_M_aim_8 : decode b_M_aim 8 = .ok (.iastore, 1) := by decide +kernel
theorem d_M_aim_9 : decode b_M_aim 9 = .ok (.aload_n 0, 1) := by decide +kernel
theorem d_M_aim_10 : decode b_M_aim 10 = .ok (.getfield 11, 3) := by decide +kernel
theorem d_M_aim_13 : decode b_M_aim 13 = .ok (.iload_n 1, 1) := by decide +kernel
theorem d_M_aim_14 : decode b_M_aim 14 = .ok (.bipush 6, 2) := by decide +kernel
theorem d_M_aim_16 : decode b_M_aim 16 = .ok (.iadd, 1) := by decide +kernel
theorem d_M_aim_17 : decode b_M_aim 17 = .ok (.aaload, 1) := by decide +kernel
theorem d_M_aim_18 : decode b_M_aim 18 = .ok (.iload_n 3, 1) := by decide +kernel
theorem d_M_aim_19 : decode b_M_aim 19 = .ok (.iload_n 2, 1) := by decide +kernel
theorem d_M_aim_20 : decode b_M_aim 20 = .ok (.iastore, 1) := by decide +kernel
theorem d_M_aim_21 : decode b_M_aim 21 = .ok (.return_, 1) := by decide +kernel
theorem kw_60 : (Cond.fieldLink "TwoEndSearch$Moves" 20 "TwoEndSearch$Moves" "places" "I" : Cond) ∈ bigW := bigW_of 60 (by decide +kernel) (by decide +kernel)
theorem kw_61 : (Cond.fieldLink "TwoEndSearch$Moves" 11 "TwoEndSearch$Moves" "targets" "[[I" : Cond) ∈ bigW := bigW_of 61 (by decide +kernel) (by decide +kernel)
theorem kw_62 : (Cond.fieldLink "TwoEndSearch$Moves" 16 "TwoEndSearch$Moves" "orders" "[I" : Cond) ∈ bigW := bigW_of 62 (by decide +kernel) (by decide +kernel)
theorem kw_63 : (Cond.fieldLink "TwoEndSearch$Moves" 24 "TwoEndSearch$Moves" "count" "I" : Cond) ∈ bigW := bigW_of 63 (by decide +kernel) (by decide +kernel)
def po_M_has (q : wz_Q) (a : Nat → Nat) (n k : Nat) (r : Nat → Nat) (f : Nat → Int32) (x : Int32) : Int32 → wz_G → Prop := fun v w => w = [mv_W q a n k r f] ∧ wz_bit v (∃ j, j < k ∧ x = nI j)
set_option maxHeartbeats 4000000 in
set_option maxRecDepth 100000 in
/-- M_has -/
theorem c_M_has (l : Launch) (D : va_G) (q : wz_Q) (a : Nat → Nat) (n k : Nat) (r : Nat → Nat) (f : Nat → Int32) (x : Int32) (hk : k ≤ 6) : wz_Mi l y_M_has ws_M_has ({ frames := 0, cells := 0, slots := 0, locals := 0 } : Room) D q ([.ref (a 0), .int x] : List Value) [mv_W q a n k r f] (po_M_has q a n k r f x) 0 0 := by
  intro sz9
  refine wz_enter (cc := b_M_has) (maxL := 2) (ret := (some .boolean)) (Qc := fun A => (va_Qi (po_M_has q a n k r f x) (wz_At D q A) A)) (by decide) (Nat.le_of_ble_eq_true rfl) ?_
  intro p e s m below meth c A ls C hP hD hS hl
  obtain ⟨hx, hb, hr, hml, hlocks, hown, hts, hN, hK, hA, hnm⟩ := C
  have hown : s.vm.findClass "TwoEndSearch$Moves" = some m.cls := hown
  have hl : lv_has ls 2 [(0, .ref (a 0)), (1, .int x)] := hl
  refine lv_iload_n hx hb d_M_has_0 rfl (lv_at hl 1 rfl) ?_
  refine lv_if_lt (tgt := 16) hx hb d_M_has_1 (by decide) (fun hc => ?_) (fun hc => ?_)
  · skip
    refine lv_iconst (v := nI 0) hx hb d_M_has_16 (by decide) ?_
    exact wz_zret hx hb hr hlocks hK hP hD hS d_M_has_17 (by first | exact Or.inl rfl | exact Or.inr rfl) ⟨rfl, wz_bit_lt hc⟩
  · skip
    refine lv_iload_n hx hb d_M_has_4 rfl (lv_at hl 1 rfl) ?_
    refine lv_aload_n hx hb d_M_has_5 rfl (lv_at hl 0 rfl) ?_
    refine wz_get (v := .int (nI k)) (T := T_M) (N := 4) hx hb hts i_M hown hK hP 0 0 rfl rfl rfl 3 (by decide) (hts _ kw_63) rfl rfl d_M_has_6 ?_
    refine lv_icmp_ge (tgt := 16) hx hb d_M_has_9 (by decide) (fun hc2 => ?_) (fun hc2 => ?_)
    · skip
      refine lv_iconst (v := nI 0) hx hb d_M_has_16 (by decide) ?_
      exact wz_zret hx hb hr hlocks hK hP hD hS d_M_has_17 (by first | exact Or.inl rfl | exact Or.inr rfl) ⟨rfl, wz_bit_ge (by omega) hc2⟩
    · skip
      refine lv_iconst (v := nI 1) hx hb d_M_has_12 (by decide) ?_
      refine lv_goto (tgt := 17) hx hb d_M_has_13 (by decide) ?_
      exact wz_zret hx hb hr hlocks hK hP hD hS d_M_has_17 (by first | exact Or.inl rfl | exact Or.inr rfl) ⟨rfl, wz_bit_in (by omega) hc hc2⟩
def po_M_isPlace (q : wz_Q) (a : Nat → Nat) (n k : Nat) (r : Nat → Nat) (f : Nat → Int32) (x : Int32) : Int32 → wz_G → Prop := fun v w => w = [mv_W q a n k r f] ∧ wz_bit v (∃ j, j < n ∧ x = nI j)
set_option maxHeartbeats 4000000 in
set_option maxRecDepth 100000 in
/-- M_isPlace -/
theorem c_M_isPlace (l : Launch) (D : va_G) (q : wz_Q) (a : Nat → Nat) (n k : Nat) (r : Nat → Nat) (f : Nat → Int32) (x : Int32) (hn : n ≤ 8) : wz_Mi l y_M_isPlace ws_M_isPlace ({ frames := 0, cells := 0, slots := 0, locals := 0 } : Room) D q ([.ref (a 0), .int x] : List Value) [mv_W q a n k r f] (po_M_isPlace q a n k r f x) 0 0 := by
  intro sz9
  refine wz_enter (cc := b_M_isPlace) (maxL := 2) (ret := (some .boolean)) (Qc := fun A => (va_Qi (po_M_isPlace q a n k r f x) (wz_At D q A) A)) (by decide) (Nat.le_of_ble_eq_true rfl) ?_
  intro p e s m below meth c A ls C hP hD hS hl
  obtain ⟨hx, hb, hr, hml, hlocks, hown, hts, hN, hK, hA, hnm⟩ := C
  have hown : s.vm.findClass "TwoEndSearch$Moves" = some m.cls := hown
  have hl : lv_has ls 2 [(0, .ref (a 0)), (1, .int x)] := hl
  refine lv_iload_n hx hb d_M_isPlace_0 rfl (lv_at hl 1 rfl) ?_
  refine lv_if_lt (tgt := 16) hx hb d_M_isPlace_1 (by decide) (fun hc => ?_) (fun hc => ?_)
  · skip
    refine lv_iconst (v := nI 0) hx hb d_M_isPlace_16 (by decide) ?_
    exact wz_zret hx hb hr hlocks hK hP hD hS d_M_isPlace_17 (by first | exact Or.inl rfl | exact Or.inr rfl) ⟨rfl, wz_bit_lt hc⟩
  · skip
    refine lv_iload_n hx hb d_M_isPlace_4 rfl (lv_at hl 1 rfl) ?_
    refine lv_aload_n hx hb d_M_isPlace_5 rfl (lv_at hl 0 rfl) ?_
    refine wz_get (v := .int (nI n)) (T := T_M) (N := 4) hx hb hts i_M hown hK hP 0 0 rfl rfl rfl 0 (by decide) (hts _ kw_60) rfl rfl d_M_isPlace_6 ?_
    refine lv_icmp_ge (tgt := 16) hx hb d_M_isPlace_9 (by decide) (fun hc2 => ?_) (fun hc2 => ?_)
    · skip
      refine lv_iconst (v := nI 0) hx hb d_M_isPlace_16 (by decide) ?_
      exact wz_zret hx hb hr hlocks hK hP hD hS d_M_isPlace_17 (by first | exact Or.inl rfl | exact Or.inr rfl) ⟨rfl, wz_bit_ge (by omega) hc2⟩
    · skip
      refine lv_iconst (v := nI 1) hx hb d_M_isPlace_12 (by decide) ?_
      refine lv_goto (tgt := 17) hx hb d_M_isPlace_13 (by decide) ?_
      exact wz_zret hx hb hr hlocks hK hP hD hS d_M_isPlace_17 (by first | exact Or.inl rfl | exact Or.inr rfl) ⟨rfl, wz_bit_in (by omega) hc hc2⟩
def po_M_orderOf (q : wz_Q) (a : Nat → Nat) (n k : Nat) (r : Nat → Nat) (f : Nat → Int32) (j : Nat) : Int32 → wz_G → Prop := fun v w => w = [mv_W q a n k r f] ∧ v = f j
set_option maxHeartbeats 4000000 in
set_option maxRecDepth 100000 in
/-- a move's order -/
theorem c_M_orderOf (l : Launch) (D : va_G) (q : wz_Q) (a : Nat → Nat) (n k : Nat) (r : Nat → Nat) (f : Nat → Int32) (j : Nat) (hj : j < 6) : wz_Mi l y_M_orderOf ws_M_orderOf ({ frames := 0, cells := 0, slots := 0, locals := 0 } : Room) D q ([.ref (a 0), .int (nI j)] : List Value) [mv_W q a n k r f] (po_M_orderOf q a n k r f j) 0 0 := by
  intro sz9
  refine wz_enter (cc := b_M_orderOf) (maxL := 2) (ret := (some .int)) (Qc := fun A => (va_Qi (po_M_orderOf q a n k r f j) (wz_At D q A) A)) (by decide) (Nat.le_of_ble_eq_true rfl) ?_
  intro p e s m below meth c A ls C hP hD hS hl
  obtain ⟨hx, hb, hr, hml, hlocks, hown, hts, hN, hK, hA, hnm⟩ := C
  have hown : s.vm.findClass "TwoEndSearch$Moves" = some m.cls := hown
  have hl : lv_has ls 2 [(0, .ref (a 0)), (1, .int (nI j))] := hl
  refine lv_aload_n hx hb d_M_orderOf_0 rfl (lv_at hl 0 rfl) ?_
  refine wz_get (v := .ref (a 2)) (T := T_M) (N := 4) hx hb hts i_M hown hK hP 0 0 rfl rfl rfl 2 (by decide) (hts _ kw_62) rfl rfl d_M_orderOf_1 ?_
  refine lv_iload_n hx hb d_M_orderOf_4 rfl (lv_at hl 1 rfl) ?_
  refine wz_iald hx hb hK hP 0 2 (j := j) rfl rfl (by omega) (by decide) d_M_orderOf_5 ?_
  exact wz_iret hx hb hr hlocks hK hP hD hS d_M_orderOf_6 ⟨rfl, rfl⟩
def po_M_mostTimes (q : wz_Q) (a : Nat → Nat) (n k : Nat) (r : Nat → Nat) (f : Nat → Int32) (x : Int32) (j : Nat) : Int32 → wz_G → Prop := fun v w => w = [mv_W q a n k r f] ∧ v = if x = 0 then nI 1 else f j - nI 1
set_option maxHeartbeats 4000000 in
set_option maxRecDepth 100000 in
/-- how often a step may do a move -/
theorem c_M_mostTimes (l : Launch) (D : va_G) (q : wz_Q) (a : Nat → Nat) (n k : Nat) (r : Nat → Nat) (f : Nat → Int32) (x : Int32) (j : Nat) (hj : j < 6) : wz_Mi l y_M_mostTimes ws_M_mostTimes ({ frames := 0, cells := 0, slots := 0, locals := 0 } : Room) D q ([.ref (a 0), .int x, .int (nI j)] : List Value) [mv_W q a n k r f] (po_M_mostTimes q a n k r f x j) 0 0 := by
  intro sz9
  refine wz_enter (cc := b_M_mostTimes) (maxL := 3) (ret := (some .int)) (Qc := fun A => (va_Qi (po_M_mostTimes q a n k r f x j) (wz_At D q A) A)) (by decide) (Nat.le_of_ble_eq_true rfl) ?_
  intro p e s m below meth c A ls C hP hD hS hl
  obtain ⟨hx, hb, hr, hml, hlocks, hown, hts, hN, hK, hA, hnm⟩ := C
  have hown : s.vm.findClass "TwoEndSearch$Moves" = some m.cls := hown
  have hl : lv_has ls 3 [(0, .ref (a 0)), (1, .int x), (2, .int (nI j))] := hl
  refine lv_iload_n hx hb d_M_mostTimes_0 rfl (lv_at hl 1 rfl) ?_
  refine lv_if_ne (tgt := 8) hx hb d_M_mostTimes_1 (by decide) (fun hc => ?_) (fun hc => ?_)
  · skip
    refine lv_aload_n hx hb d_M_mostTimes_8 rfl (lv_at hl 0 rfl) ?_
    refine wz_get (v := .ref (a 2)) (T := T_M) (N := 4) hx hb hts i_M hown hK hP 0 0 rfl rfl rfl 2 (by decide) (hts _ kw_62) rfl rfl d_M_mostTimes_9 ?_
    refine lv_iload_n hx hb d_M_mostTimes_12 rfl (lv_at hl 2 rfl) ?_
    refine wz_iald hx hb hK hP 0 2 (j := j) rfl rfl (by omega) (by decide) d_M_mostTimes_13 ?_
    refine lv_iconst (v := nI 1) hx hb d_M_mostTimes_14 (by decide) ?_
    refine lv_isub hx hb d_M_mostTimes_15 ?_
    exact wz_iret hx hb hr hlocks hK hP hD hS d_M_mostTimes_16 ⟨rfl, (if_neg hc).symm⟩
  · skip
    refine lv_iconst (v := nI 1) hx hb d_M_mostTimes_4 (by decide) ?_
    refine lv_goto (tgt := 16) hx hb d_M_mostTimes_5 (by decide) ?_
    exact wz_iret hx hb hr hlocks hK hP hD hS d_M_mostTimes_16 ⟨rfl, (if_pos hc).symm⟩
def po_M_dropAll (q : wz_Q) (a : Nat → Nat) (n k : Nat) (r : Nat → Nat) (f : Nat → Int32) : wz_G → Prop := fun w => w = [mv_W q a n 0 r f]
set_option maxHeartbeats 4000000 in
set_option maxRecDepth 100000 in
/-- no moves -/
theorem c_M_dropAll (l : Launch) (D : va_G) (q : wz_Q) (a : Nat → Nat) (n k : Nat) (r : Nat → Nat) (f : Nat → Int32)  : wz_Mv l y_M_dropAll ws_M_dropAll ({ frames := 0, cells := 0, slots := 0, locals := 0 } : Room) D q ([.ref (a 0)] : List Value) [mv_W q a n k r f] (po_M_dropAll q a n k r f) 0 0 := by
  intro sz9
  refine wz_enter (cc := b_M_dropAll) (maxL := 1) (ret := none) (Qc := fun A => (va_Qv (po_M_dropAll q a n k r f) (wz_At D q A) A)) (by decide) (Nat.le_of_ble_eq_true rfl) ?_
  intro p e s m below meth c A ls C hP hD hS hl
  obtain ⟨hx, hb, hr, hml, hlocks, hown, hts, hN, hK, hA, hnm⟩ := C
  have hown : s.vm.findClass "TwoEndSearch$Moves" = some m.cls := hown
  have hl : lv_has ls 1 [(0, .ref (a 0))] := hl
  refine lv_aload_n hx hb d_M_dropAll_0 rfl (lv_at hl 0 rfl) ?_
  refine lv_iconst (v := nI 0) hx hb d_M_dropAll_1 (by decide) ?_
  refine wz_put (gs' := [mv_W q a n 0 r f]) (v := .int (nI 0)) (T := T_M) (N := 4) hx hb hts i_M t_M t_M_ok n_M hown hK hP hD hS 0 0 rfl rfl rfl 3 (by decide) (hts _ kw_63) rfl rfl (ty := t_M 3) (by decide +kernel) rfl rfl (Nat.le_of_ble_eq_true rfl) d_M_dropAll_2 rfl (fun H locs hP hD hS => ?_)
  exact wz_vret hx hb hr hlocks hK hP hD hS d_M_dropAll_5 rfl
def po_M_aim (q : wz_Q) (a : Nat → Nat) (n k : Nat) (r : Nat → Nat) (f : Nat → Int32) (M : Nat → Nat → Int32) (o x y : Nat) : wz_G → Prop := fun w => w = [mv_W q a n k r f, wz_rows 12 r (fun i9 => .inl (q.1, 8, .inl ((pz_up (pz_up M o (upd (M o) x (nI y))) (o + 6) (upd (pz_up M o (upd (M o) x (nI y)) (o + 6)) y (nI x))) i9)))]
set_option maxHeartbeats 4000000 in
set_option maxRecDepth 100000 in
/-- a move brings x to y, undone it brings y to x -/
theorem c_M_aim (l : Launch) (D : va_G) (q : wz_Q) (a : Nat → Nat) (n k : Nat) (r : Nat → Nat) (f : Nat → Int32) (M : Nat → Nat → Int32) (o x y : Nat) (ho : o < 6) (hx8 : x < 8) (hy8 : y < 8) : wz_Mv l y_M_aim ws_M_aim ({ frames := 0, cells := 0, slots := 0, locals := 0 } : Room) D q ([.ref (a 0), .int (nI o), .int (nI x), .int (nI y)] : List Value) [mv_W q a n k r f, wz_rows 12 r (fun i9 => .inl (q.1, 8, .inl (M i9)))] (po_M_aim q a n k r f M o x y) 0 0 := by
  intro sz9
  refine wz_enter (cc := b_M_aim) (maxL := 4) (ret := none) (Qc := fun A => (va_Qv (po_M_aim q a n k r f M o x y) (wz_At D q A) A)) (by decide) (Nat.le_of_ble_eq_true rfl) ?_
  intro p e s m below meth c A ls C hP hD hS hl
  obtain ⟨hx, hb, hr, hml, hlocks, hown, hts, hN, hK, hA, hnm⟩ := C
  have hown : s.vm.findClass "TwoEndSearch$Moves" = some m.cls := hown
  have hl : lv_has ls 4 [(0, .ref (a 0)), (1, .int (nI o)), (2, .int (nI x)), (3, .int (nI y))] := hl
  refine lv_aload_n hx hb d_M_aim_0 rfl (lv_at hl 0 rfl) ?_
  refine wz_get (v := .ref (a 1)) (T := T_M) (N := 4) hx hb hts i_M hown hK hP 0 0 rfl rfl rfl 1 (by decide) (hts _ kw_61) rfl rfl d_M_aim_1 ?_
  refine lv_iload_n hx hb d_M_aim_4 rfl (lv_at hl 1 rfl) ?_
  refine wz_aald hx hb hK hP 0 1 (j := o) (r := r) rfl rfl (by omega) (by decide) d_M_aim_5 ?_
  refine lv_iload_n hx hb d_M_aim_6 rfl (lv_at hl 2 rfl) ?_
  refine lv_iload_n hx hb d_M_aim_7 rfl (lv_at hl 3 rfl) ?_
  refine wz_iast (gs' := [mv_W q a n k r f, wz_rows 12 r (fun i9 => .inl (q.1, 8, .inl ((pz_up M o (upd (M o) x (nI y))) i9)))]) hx hb hK hP hD hS 1 o (j := x) rfl (wz_rows_get (by omega)) (by omega) (by decide) d_M_aim_8 (by rw [wz_rows_iset]; rfl) (fun H locs hP hD hS => ?_)
  refine lv_aload_n hx hb d_M_aim_9 rfl (lv_at hl 0 rfl) ?_
  refine wz_get (v := .ref (a 1)) (T := T_M) (N := 4) hx hb hts i_M hown hK hP 0 0 rfl rfl rfl 1 (by decide) (hts _ kw_61) rfl rfl d_M_aim_10 ?_
  refine lv_iload_n hx hb d_M_aim_13 rfl (lv_at hl 1 rfl) ?_
  refine lv_bipush (v := nI 6) hx hb d_M_aim_14 (by decide) ?_
  refine lv_iadd hx hb d_M_aim_16 ?_
  refine wz_topi (y := nI (o + 6)) (nI_add o 6) ?_
  refine wz_aald hx hb hK hP 0 1 (j := (o + 6)) (r := r) rfl rfl (by omega) (by decide) d_M_aim_17 ?_
  refine lv_iload_n hx hb d_M_aim_18 rfl (lv_at hl 3 rfl) ?_
  refine lv_iload_n hx hb d_M_aim_19 rfl (lv_at hl 2 rfl) ?_
  refine wz_iast (gs' := [mv_W q a n k r f, wz_rows 12 r (fun i9 => .inl (q.1, 8, .inl ((pz_up (pz_up M o (upd (M o) x (nI y))) (o + 6) (upd ((pz_up M o (upd (M o) x (nI y))) (o + 6)) y (nI x))) i9)))]) hx hb hK hP hD hS 1 (o + 6) (j := y) rfl (wz_rows_get (by omega)) (by omega) (by decide) d_M_aim_20 (by rw [wz_rows_iset]; rfl) (fun H locs hP hD hS => ?_)
  exact wz_vret hx hb hr hlocks hK hP hD hS d_M_aim_21 rfl
end
section
def mv_can (n k : Nat) (sg : Nat → Nat → Nat) (x y z : Int32) (mo fr t : Nat) : Prop := mo < k ∧ fr < n ∧ t < n ∧ x = nI mo ∧ y = nI fr ∧ z = nI t ∧ fr ≠ t ∧ sg mo t = t
theorem wz_bit_0 {v : Int32} {P : Prop} (h : wz_bit v P) (e : v = 0) : ¬ P := by
  rcases h with h | h
  · rw [h.1] at e; exact absurd e (by decide)
  · exact h.2
theorem wz_bit_1 {v : Int32} {P : Prop} (h : wz_bit v P) (e : ¬ v = 0) : P := by
  rcases h with h | h
  · exact h.2
  · exact absurd h.1 e
theorem mv_aim_self {M : Nat → Nat → Int32} {k i : Nat} (h1 : ∀ p, p < i → M k p = nI p ∧ M (k + 6) p = nI p) (p : Nat) (hp : p < i + 1) : mv_aim M k i i k p = nI p ∧ mv_aim M k i i (k + 6) p = nI p := by
  rw [mv_aim_1, mv_aim_2]
  by_cases e : p = i
  · subst e; rw [pk_us, pk_us]; exact ⟨rfl, rfl⟩
  · rw [pk_un e, pk_un e]; exact h1 p (by omega)
theorem d_M_add_0 : decode b_M_add 0 = .ok (.aload_n 0, 1) := by decide +kernel
theorem d_M_add_1 : decode b_M_add 1 = .ok (.getfield 24, 3) := by decide +kernel
theorem d_M_add_4 : decode b_M_add 4 = .ok (.bipush 6, 2) := by decide +kernel
theorem d_M_add_6 : decode b_M_add 6 = .ok (.if_icmp .lt 5, 3) := by decide +kernel
theorem d_M_add_9 : decode b_M_add 9 = .ok (.iconst (-1), 1) := by decide +kernel
theorem d_M_add_10 : decode b_M_add 10 = .ok (.ireturn, 1) := by decide +kernel
theorem d_M_add_11 : decode b_M_add 11 = .ok (.aload_n 0, 1) := by decide +kernel
theorem d_M_add_12 : decode b_M_add 12 = .ok (.getfield 24, 3) := by decide +kernel
theorem d_M_add_15 : decode b_M_add 15 = .ok (.istore_n 1, 1) := by decide +kernel
theorem d_M_add_16 : decode b_M_add 16 = .ok (.iconst 0, 1) := by decide +kernel
theorem d_M_add_17 : decode b_M_add 17 = .ok (.istore_n 2, 1) := by decide +kernel
theorem d_M_add_18 : decode b_M_add 18 = .ok (.iload_n 2, 1) := by decide +kernel
theorem d_M_add_19 : decode b_M_add 19 = .ok (.bipush 8, 2) := by decide +kernel
theorem d_M_add_21 : decode b_M_add 21 = .ok (.if_icmp .ge 16, 3) := by decide +kernel
theorem d_M_add_24 : decode b_M_add 24 = .ok (.aload_n 0, 1) := by decide +kernel
theorem d_M_add_25 : decode b_M_add 25 = .ok (.iload_n 1, 1) := by decide +kernel
theorem d_M_add_26 : decode b_M_add 26 = .ok (.iload_n 2, 1) := by decide +kernel
theorem d_M_add_27 : decode b_M_add 27 = .ok (.iload_n 2, 1) := by decide +kernel
theorem d_M_add_28 : decode b_M_add 28 = .ok (.invokevirtual 27, 3) := by decide +kernel
theorem d_M_add_31 : decode b_M_add 31 = .ok (.iinc 2 1, 3) := by decide +kernel
theorem d_M_add_34 : decode b_M_add 34 = .ok (.goto (-16), 3) := by decide +kernel
theorem d_M_add_37 : decode b_M_add 37 = .ok (.aload_n 0, 1) := by decide +kernel
theorem d_M_add_38 : decode b_M_add 38 = .ok (.getfield 16, 3) := by decide +kernel
theorem d_M_add_41 : decode b_M_add 41 = .ok (.iload_n 1, 1) := by decide +kernel
theorem d_M_add_42 : decode b_M_add 42 = .ok (.iconst 1, 1) := by decide +kernel
theorem d_M_add_43 : decode b_M_add 43 = .ok (.iastore, 1) := by decide +kernel
theorem d_M_add_44 : decode b_M_add 44 = .ok (.aload_n 0, 1) := by decide +kernel
theorem d_M_add_45 : decode b_M_add 45 = .ok (.dup, 1) := by decide +kernel
theorem d_M_add_46 : decode b_M_add 46 = .ok (.getfield 24, 3) := by decide +kernel
theorem d_M_add_49 : decode b_M_add 49 = .ok (.iconst 1, 1) := by decide +kernel
theorem d_M_add_50 : decode b_M_add 50 = .ok (.iadd, 1) := by decide +kernel
theorem d_M_add_51 : decode b_M_add 51 = .ok (.putfield 24, 3) := by decide +kernel
theorem d_M_add_54 : decode b_M_add 54 = .ok (.iload_n 1, 1) := by decide +kernel
theorem d_M_add_55 : decode b_M_add 55 = .ok (.ireturn, 1) := by decide +kernel
theorem d_M_bring_0 : decode b_M_bring 0 = .ok (.aload_n 0, 1) := by decide +kernel
theorem d_M_bring_1 : decode b_M_bring 1 = .ok (.getfield 11, 3) := by decide +kernel
theorem d_M_bring_4 : decode b_M_bring 4 = .ok (.iload_n 1, 1) := by decide +kernel
theorem d_M_bring_5 : decode b_M_bring 5 = .ok (.aaload, 1) := by decide +kernel
theorem d_M_bring_6 : decode b_M_bring 6 = .ok (.astore_n 3, 1) := by decide +kernel
theorem d_M_bring_7 : decode b_M_bring 7 = .ok (.iconst 0, 1) := by decide +kernel
theorem d_M_bring_8 : decode b_M_bring 8 = .ok (.istore 4, 2) := by decide +kernel
theorem d_M_bring_10 : decode b_M_bring 10 = .ok (.iload_n 2, 1) := by decide +kernel
theorem d_M_bring_11 : decode b_M_bring 11 = .ok (.istore 5, 2) := by decide +kernel
theorem d_M_bring_13 : decode b_M_bring 13 = .ok (.iconst 0, 1) := by decide +kernel
theorem d_M_bring_14 : decode b_M_bring 14 = .ok (.istore 6, 2) := by decide +kernel
theorem d_M_bring_16 : decode b_M_bring 16 = .ok (.iload 6, 2) := by decide +kernel
theorem d_M_bring_18 : decode b_M_bring 18 = .ok (.aload_n 0, 1) := by decide +kernel
theorem d_M_bring_19 : decode b_M_bring 19 = .ok (.getfield 20, 3) := by decide +kernel
theorem d_M_bring_22 : decode b_M_bring 22 = .ok (.if_icmp .ge 32, 3) := by decide +kernel
theorem d_M_bring_25 : decode b_M_bring 25 = .ok (.iload 4, 2) := by decide +kernel
theorem d_M_bring_27 : decode b_M_bring 27 = .ok (.iload 5, 2) := by decide +kernel
theorem d_M_bring_29 : decode b_M_bring 29 = .ok (.bipush 7, 2) := by decide +kernel
theorem d_M_bring_31 : decode b_M_bring 31 = .ok (.iand, 1) := by decide +kernel
theorem d_M_bring_32 : decode b_M_bring 32 = .ok (.iconst 3, 1) := by decide +kernel
theorem d_M_bring_33 : decode b_M_bring 33 = .ok (.aload_n 3, 1) := by decide +kernel
theorem d_M_bring_34 : decode b_M_bring 34 = .ok (.iload 6, 2) := by decide +kernel
theorem d_M_bring_36 : decode b_M_bring 36 = .ok (.iaload, 1) := by decide +kernel
theorem d_M_bring_37 : decode b_M_bring 37 = .ok (.imul, 1) := by decide +kernel
theorem d_M_bring_38 : decode b_M_bring 38 = .ok (.ishl, 1) := by decide +kernel
theorem d_M_bring_39 : decode b_M_bring 39 = .ok (.ior, 1) := by decide +kernel
theorem d_M_bring_40 : decode b_M_bring 40 = .ok (.istore 4, 2) := by decide +kernel
theorem d_M_bring_42 : decode b_M_bring 42 = .ok (.iload 5, 2) := by decide +kernel
theorem d_M_bring_44 : decode b_M_bring 44 = .ok (.iconst 3, 1) := by decide +kernel
theorem d_M_bring_45 : decode b_M_bring 45 = .ok (.iushr, 1) := by decide +kernel
theorem d_M_bring_46 : decode b_M_bring 46 = .ok (.istore 5, 2) := by decide +kernel
theorem d_M_bring_48 : decode b_M_bring 48 = .ok (.iinc 6 1, 3) := by decide +kernel
theorem d_M_bring_51 : decode b_M_bring 51 = .ok (.goto (-35), 3) := by decide +kernel
theorem d_M_bring_54 : decode b_M_bring 54 = .ok (.iload 4, 2) := by decide +kernel
theorem d_M_bring_56 : decode b_M_bring 56 = .ok (.ireturn, 1) := by decide +kernel
theorem d_X_firstState_0 : decode b_X_firstState 0 = .ok (.iconst 0, 1) := by decide +kernel
theorem d_X_firstState_1 : decode b_X_firstState 1 = .ok (.istore_n 1, 1) := by decide +kernel
theorem d_X_firstState_2 : decode b_X_firstState 2 = .ok (.iconst 0, 1) := by decide +kernel
theorem d_X_firstState_3 : decode b_X_firstState 3 = .ok (.istore_n 2, 1) := by decide +kernel
theorem d_X_firstState_4 : decode b_X_firstState 4 = .ok (.iload_n 2, 1) := by decide +kernel
theorem d_X_firstState_5 : decode b_X_firstState 5 = .ok (.iload_n 0, 1) := by decide +kernel
theorem d_X_firstState_6 : decode b_X_firstState 6 = .ok (.if_icmp .ge 17, 3) := by decide +kernel
theorem d_X_firstState_9 : decode b_X_firstState 9 = .ok (.iload_n 1, 1) := by decide +kernel
theorem d_X_firstState_10 : decode b_X_firstState 10 = .ok (.iload_n 2, 1) := by decide +kernel
theorem d_X_firstState_11 : decode b_X_firstState 11 = .ok (.iconst 3, 1) := by decide +kernel
theorem d_X_firstState_12 : decode b_X_firstState 12 = .ok (.iload_n 2, 1) := by decide +kernel
theorem d_X_firstState_13 : decode b_X_firstState 13 = .ok (.imul, 1) := by decide +kernel
theorem d_X_firstState_14 : decode b_X_firstState 14 = .ok (.ishl, 1) := by decide +kernel
theorem d_X_firstState_15 : decode b_X_firstState 15 = .ok (.ior, 1) := by decide +kernel
theorem d_X_firstState_16 : decode b_X_firstState 16 = .ok (.istore_n 1, 1) := by decide +kernel
theorem d_X_firstState_17 : decode b_X_firstState 17 = .ok (.iinc 2 1, 3) := by decide +kernel
theorem d_X_firstState_20 : decode b_X_firstState 20 = .ok (.goto (-16), 3) := by decide +kernel
theorem d_X_firstState_23 : decode b_X_firstState 23 = .ok (.iload_n 1, 1) := by decide +kernel
theorem d_X_firstState_24 : decode b_X_firstState 24 = .ok (.ireturn, 1) := by decide +kernel
theorem d_M_countOrder_0 : decode b_M_countOrder 0 = .ok (.aload_n 0, 1) := by decide +kernel
theorem d_M_countOrder_1 : decode b_M_countOrder 1 = .ok (.getfield 20, 3) := by decide +kernel
theorem d_M_countOrder_4 : decode b_M_countOrder 4 = .ok (.invokestatic 42, 3) := by decide +kernel
theorem d_M_countOrder_7 : decode b_M_countOrder 7 = .ok (.istore_n 2, 1) := by decide +kernel
theorem d_M_countOrder_8 : decode b_M_countOrder 8 = .ok (.iload_n 2, 1) := by decide +kernel
theorem d_M_countOrder_9 : decode b_M_countOrder 9 = .ok (.istore_n 3, 1) := by decide +kernel
theorem d_M_countOrder_10 : decode b_M_countOrder 10 = .ok (.iconst 1, 1) := by decide +kernel
theorem d_M_countOrder_11 : decode b_M_countOrder 11 = .ok (.istore 4, 2) := by decide +kernel
theorem d_M_countOrder_13 : decode b_M_countOrder 13 = .ok (.iload 4, 2) := by decide +kernel
theorem d_M_countOrder_15 : decode b_M_countOrder 15 = .ok (.bipush 15, 2) := by decide +kernel
theorem d_M_countOrder_17 : decode b_M_countOrder 17 = .ok (.if_icmp .ge 24, 3) := by decide +kernel
theorem d_M_countOrder_20 : decode b_M_countOrder 20 = .ok (.aload_n 0, 1) := by decide +kernel
theorem d_M_countOrder_21 : decode b_M_countOrder 21 = .ok (.iload_n 1, 1) := by decide +kernel
theorem d_M_countOrder_22 : decode b_M_countOrder 22 = .ok (.iload_n 3, 1) := by decide +kernel
theorem d_M_countOrder_23 : decode b_M_countOrder 23 = .ok (.invokevirtual 45, 3) := by decide +kernel
theorem d_M_countOrder_26 : decode b_M_countOrder 26 = .ok (.istore_n 3, 1) := by decide +kernel
theorem d_M_countOrder_27 : decode b_M_countOrder 27 = .ok (.iload_n 3, 1) := by decide +kernel
theorem d_M_countOrder_28 : decode b_M_countOrder 28 = .ok (.iload_n 2, 1) := by decide +kernel
theorem d_M_countOrder_29 : decode b_M_countOrder 29 = .ok (.if_icmp .ne 6, 3) := by decide +kernel
theorem d_M_countOrder_32 : decode b_M_countOrder 32 = .ok (.iload 4, 2) := by decide +kernel
theorem d_M_countOrder_34 : decode b_M_countOrder 34 = .ok (.ireturn, 1) := by decide +kernel
theorem d_M_countOrder_35 : decode b_M_countOrder 35 = .ok (.iinc 4 1, 3) := by decide +kernel
theorem d_M_countOrder_38 : decode b_M_countOrder 38 = .ok (.goto (-25), 3) := by decide +kernel
theorem d_M_countOrder_41 : decode b_M_countOrder 41 = .ok (.bipush 15, 2) := by decide +kernel
theorem d_M_countOrder_43 : decode b_M_countOrder 43 = .ok (.ireturn, 1) := by decide +kernel
theorem d_M_lengthen_0 : decode b_M_lengthen 0 = .ok (.aload_n 0, 1) := by decide +kernel
theorem d_M_lengthen_1 : decode b_M_lengthen 1 = .ok (.iload_n 1, 1) := by decide +kernel
theorem d_M_lengthen_2 : decode b_M_lengthen 2 = .ok (.invokevirtual 31, 3) := by decide +kernel
theorem d_M_lengthen_5 : decode b_M_lengthen 5 = .ok (.ifCond .eq 24, 3) := by decide +kernel
theorem d_M_lengthen_8 : decode b_M_lengthen 8 = .ok (.aload_n 0, 1) := by decide +kernel
theorem d_M_lengthen_9 : decode b_M_lengthen 9 = .ok (.iload_n 2, 1) := by decide +kernel
theorem d_M_lengthen_10 : decode b_M_lengthen 10 = .ok (.invokevirtual 35, 3) := by decide +kernel
theorem d_M_lengthen_13 : decode b_M_lengthen 13 = .ok (.ifCond .eq 16, 3) := by decide +kernel
theorem d_M_lengthen_16 : decode b_M_lengthen 16 = .ok (.aload_n 0, 1) := by decide +kernel
theorem d_M_lengthen_17 : decode b_M_lengthen 17 = .ok (.iload_n 3, 1) := by decide +kernel
theorem d_M_lengthen_18 : decode b_M_lengthen 18 = .ok (.invokevirtual 35, 3) := by decide +kernel
theorem d_M_lengthen_21 : decode b_M_lengthen 21 = .ok (.ifCond .eq 8, 3) := by decide +kernel
theorem d_M_lengthen_24 : decode b_M_lengthen 24 = .ok (.iload_n 2, 1) := by decide +kernel
theorem d_M_lengthen_25 : decode b_M_lengthen 25 = .ok (.iload_n 3, 1) := by decide +kernel
theorem d_M_lengthen_26 : decode b_M_lengthen 26 = .ok (.if_icmp .ne 5, 3) := by decide +kernel
theorem d_M_lengthen_29 : decode b_M_lengthen 29 = .ok (.iconst 0, 1) := by decide +kernel
theorem d_M_lengthen_30 : decode b_M_lengthen 30 = .ok (.ireturn, 1) := by decide +kernel
theorem d_M_lengthen_31 : decode b_M_lengthen 31 = .ok (.aload_n 0, 1) := by decide +kernel
theorem d_M_lengthen_32 : decode b_M_lengthen 32 = .ok (.getfield 11, 3) := by decide +kernel
theorem d_M_lengthen_35 : decode b_M_lengthen 35 = .ok (.iload_n 1, 1) := by decide +kernel
theorem d_M_lengthen_36 : decode b_M_lengthen 36 = .ok (.aaload, 1) := by decide +kernel
theorem d_M_lengthen_37 : decode b_M_lengthen 37 = .ok (.iload_n 3, 1) := by decide +kernel
theorem d_M_lengthen_38 : decode b_M_lengthen 38 = .ok (.iaload, 1) := by decide +kernel
theorem d_M_lengthen_39 : decode b_M_lengthen 39 = .ok (.iload_n 3, 1) := by decide +kernel
theorem d_M_lengthen_40 : decode b_M_lengthen 40 = .ok (.if_icmp .eq 5, 3) := by decide +kernel
theorem d_M_lengthen_43 : decode b_M_lengthen 43 = .ok (.iconst 0, 1) := by decide +kernel
theorem d_M_lengthen_44 : decode b_M_lengthen 44 = .ok (.ireturn, 1) := by decide +kernel
theorem d_M_lengthen_45 : decode b_M_lengthen 45 = .ok (.aload_n 0, 1) := by decide +kernel
theorem d_M_lengthen_46 : decode b_M_lengthen 46 = .ok (.getfield 11, 3) := by decide +kernel
theorem d_M_lengthen_49 : decode b_M_lengthen 49 = .ok (.iload_n 1, 1) := by decide +kernel
theorem d_M_lengthen_50 : decode b_M_lengthen 50 = .ok (.aaload, 1) := by decide +kernel
theorem d_M_lengthen_51 : decode b_M_lengthen 51 = .ok (.iload_n 2, 1) := by decide +kernel
theorem d_M_lengthen_52 : decode b_M_lengthen 52 = .ok (.iaload, 1) := by decide +kernel
theorem d_M_lengthen_53 : decode b_M_lengthen 53 = .ok (.istore 4, 2) := by decide +kernel
theorem d_M_lengthen_55 : decode b_M_lengthen 55 = .ok (.aload_n 0, 1) := by decide +kernel
theorem d_M_lengthen_56 : decode b_M_lengthen 56 = .ok (.iload_n 1, 1) := by decide +kernel
theorem d_M_lengthen_57 : decode b_M_lengthen 57 = .ok (.iload_n 2, 1) := by decide +kernel
theorem d_M_lengthen_58 : decode b_M_lengthen 58 = .ok (.iload_n 3, 1) := by decide +kernel
theorem d_M_lengthen_59 : decode b_M_lengthen 59 = .ok (.invokevirtual 27, 3) := by decide +kernel
theorem d_M_lengthen_62 : decode b_M_lengthen 62 = .ok (.aload_n 0, 1) := by decide +kernel
theorem d_M_lengthen_63 : decode b_M_lengthen 63 = .ok (.iload_n 1, 1) := by decide +kernel
theorem d_M_lengthen_64 : decode b_M_lengthen 64 = .ok (.iload_n 3, 1) := by decide +kernel
theorem d_M_lengthen_65 : decode b_M_lengthen 65 = .ok (.iload 4, 2) := by decide +kernel
theorem d_M_lengthen_67 : decode b_M_lengthen 67 = .ok (.invokevirtual 27, 3) := by decide +kernel
theorem d_M_lengthen_70 : decode b_M_lengthen 70 = .ok (.aload_n 0, 1) := by decide +kernel
theorem d_M_lengthen_71 : decode b_M_lengthen 71 = .ok (.getfield 16, 3) := by decide +kernel
theorem d_M_lengthen_74 : decode b_M_lengthen 74 = .ok (.iload_n 1, 1) := by decide +kernel
theorem d_M_lengthen_75 : decode b_M_lengthen 75 = .ok (.aload_n 0, 1) := by decide +kernel
theorem d_M_lengthen_76 : decode b_M_lengthen 76 = .ok (.iload_n 1, 1) := by decide +kernel
theorem d_M_lengthen_77 : decode b_M_lengthen 77 = .ok (.invokevirtual 38, 3) := by decide +kernel
theorem d_M_lengthen_80 : decode b_M_lengthen 80 = .ok (.iastore, 1) := by decide +kernel
theorem d_M_lengthen_81 : decode b_M_lengthen 81 = .ok (.iconst 1, 1) := by decide +kernel
theorem d_M_lengthen_82 : decode b_M_lengthen 82 = .ok (.ireturn, 1) := by decide +kernel
theorem kw_0 : (Cond.selects "TwoEndSearch$Moves" ⟨"TwoEndSearch$Moves", "aim", "(III)V"⟩ ⟨"TwoEndSearch$Moves", "aim", "(III)V"⟩ : Cond) ∈ bigW := bigW_of 0 (by decide +kernel) (by decide +kernel)
theorem kw_2 : (Cond.selects "TwoEndSearch$Moves" ⟨"TwoEndSearch$Moves", "isPlace", "(I)Z"⟩ ⟨"TwoEndSearch$Moves", "isPlace", "(I)Z"⟩ : Cond) ∈ bigW := bigW_of 2 (by decide +kernel) (by decide +kernel)
theorem kw_3 : (Cond.selects "TwoEndSearch$Moves" ⟨"TwoEndSearch$Moves", "countOrder", "(I)I"⟩ ⟨"TwoEndSearch$Moves", "countOrder", "(I)I"⟩ : Cond) ∈ bigW := bigW_of 3 (by decide +kernel) (by decide +kernel)
theorem kw_30 : (Cond.initialized "TwoEndSearch" : Cond) ∈ bigW := bigW_of 30 (by decide +kernel) (by decide +kernel)
theorem kw_32 : (Cond.initialized "TwoEndSearch$Moves" : Cond) ∈ bigW := bigW_of 32 (by decide +kernel) (by decide +kernel)
theorem kw_78 : (Cond.static ⟨"TwoEndSearch", "firstState", "(I)I"⟩ : Cond) ∈ bigW := bigW_of 78 (by decide +kernel) (by decide +kernel)
theorem kw_79 : (Cond.code ⟨"TwoEndSearch", "firstState", "(I)I"⟩ prog_1_method_17_code 3 (some .int) : Cond) ∈ bigW := bigW_of 79 (by decide +kernel) (by decide +kernel)
theorem kw_104 : (Cond.methodLink "TwoEndSearch$Moves" 27 ⟨"TwoEndSearch$Moves", "aim", "(III)V"⟩ : Cond) ∈ bigW := bigW_of 104 (by decide +kernel) (by decide +kernel)
theorem kw_106 : (Cond.instanceMethod ⟨"TwoEndSearch$Moves", "aim", "(III)V"⟩ : Cond) ∈ bigW := bigW_of 106 (by decide +kernel) (by decide +kernel)
theorem kw_107 : (Cond.code ⟨"TwoEndSearch$Moves", "aim", "(III)V"⟩ prog_4_method_10_code 4 none : Cond) ∈ bigW := bigW_of 107 (by decide +kernel) (by decide +kernel)
theorem kw_124 : (Cond.methodLink "TwoEndSearch$Moves" 31 ⟨"TwoEndSearch$Moves", "has", "(I)Z"⟩ : Cond) ∈ bigW := bigW_of 124 (by decide +kernel) (by decide +kernel)
theorem kw_125 : (Cond.instanceMethod ⟨"TwoEndSearch$Moves", "has", "(I)Z"⟩ : Cond) ∈ bigW := bigW_of 125 (by decide +kernel) (by decide +kernel)
theorem kw_126 : (Cond.selects "TwoEndSearch$Moves" ⟨"TwoEndSearch$Moves", "has", "(I)Z"⟩ ⟨"TwoEndSearch$Moves", "has", "(I)Z"⟩ : Cond) ∈ bigW := bigW_of 126 (by decide +kernel) (by decide +kernel)
theorem kw_127 : (Cond.code ⟨"TwoEndSearch$Moves", "has", "(I)Z"⟩ prog_4_method_2_code 2 (some .boolean) : Cond) ∈ bigW := bigW_of 127 (by decide +kernel) (by decide +kernel)
theorem kw_128 : (Cond.methodLink "TwoEndSearch$Moves" 35 ⟨"TwoEndSearch$Moves", "isPlace", "(I)Z"⟩ : Cond) ∈ bigW := bigW_of 128 (by decide +kernel) (by decide +kernel)
theorem kw_130 : (Cond.instanceMethod ⟨"TwoEndSearch$Moves", "isPlace", "(I)Z"⟩ : Cond) ∈ bigW := bigW_of 130 (by decide +kernel) (by decide +kernel)
theorem kw_131 : (Cond.code ⟨"TwoEndSearch$Moves", "isPlace", "(I)Z"⟩ prog_4_method_9_code 2 (some .boolean) : Cond) ∈ bigW := bigW_of 131 (by decide +kernel) (by decide +kernel)
theorem kw_132 : (Cond.methodLink "TwoEndSearch$Moves" 38 ⟨"TwoEndSearch$Moves", "countOrder", "(I)I"⟩ : Cond) ∈ bigW := bigW_of 132 (by decide +kernel) (by decide +kernel)
theorem kw_134 : (Cond.instanceMethod ⟨"TwoEndSearch$Moves", "countOrder", "(I)I"⟩ : Cond) ∈ bigW := bigW_of 134 (by decide +kernel) (by decide +kernel)
theorem kw_135 : (Cond.code ⟨"TwoEndSearch$Moves", "countOrder", "(I)I"⟩ prog_4_method_11_code 5 (some .int) : Cond) ∈ bigW := bigW_of 135 (by decide +kernel) (by decide +kernel)
theorem kw_137 : (Cond.methodLink "TwoEndSearch$Moves" 45 ⟨"TwoEndSearch$Moves", "bring", "(II)I"⟩ : Cond) ∈ bigW := bigW_of 137 (by decide +kernel) (by decide +kernel)
theorem kw_138 : (Cond.instanceMethod ⟨"TwoEndSearch$Moves", "bring", "(II)I"⟩ : Cond) ∈ bigW := bigW_of 138 (by decide +kernel) (by decide +kernel)
theorem kw_139 : (Cond.selects "TwoEndSearch$Moves" ⟨"TwoEndSearch$Moves", "bring", "(II)I"⟩ ⟨"TwoEndSearch$Moves", "bring", "(II)I"⟩ : Cond) ∈ bigW := bigW_of 139 (by decide +kernel) (by decide +kernel)
theorem kw_140 : (Cond.code ⟨"TwoEndSearch$Moves", "bring", "(II)I"⟩ prog_4_method_7_code 7 (some .int) : Cond) ∈ bigW := bigW_of 140 (by decide +kernel) (by decide +kernel)
def po_M_add (q : wz_Q) (a : Nat → Nat) (n k : Nat) (r : Nat → Nat) (f : Nat → Int32) (M : Nat → Nat → Int32) : Int32 → wz_G → Prop := fun v w => (6 ≤ k ∧ v = -1 ∧ w = [mv_W q a n k r f, wz_rows 12 r (fun i9 => .inl (q.1, 8, .inl (M i9)))]) ∨ (k < 6 ∧ v = nI k ∧ ∃ M' : Nat → Nat → Int32, w = [mv_W q a n (k + 1) r (upd f k (nI 1)), wz_rows 12 r (fun i9 => .inl (q.1, 8, .inl (M' i9)))] ∧ (∀ p, p < 8 → M' k p = nI p ∧ M' (k + 6) p = nI p) ∧ ∀ i, i ≠ k → i ≠ k + 6 → M' i = M i)
set_option maxHeartbeats 4000000 in
set_option maxRecDepth 100000 in
/-- a move that leaves everything -/
theorem c_M_add (l : Launch) (D : va_G) (q : wz_Q) (a : Nat → Nat) (n k : Nat) (r : Nat → Nat) (f : Nat → Int32) (M : Nat → Nat → Int32) (hk : k ≤ 6) : wz_Mi l y_M_add ws_M_add ({ frames := 1, cells := 0, slots := 0, locals := 23 } : Room) D q ([.ref (a 0)] : List Value) [mv_W q a n k r f, wz_rows 12 r (fun i9 => .inl (q.1, 8, .inl (M i9)))] (po_M_add q a n k r f M) 0 0 := by
  intro sz9
  refine wz_enter (cc := b_M_add) (maxL := 3) (ret := (some .int)) (Qc := fun A => (va_Qi (po_M_add q a n k r f M) (wz_At D q A) A)) (by decide) (Nat.le_of_ble_eq_true rfl) ?_
  intro p e s m below meth c A ls C hP hD hS hl
  obtain ⟨hx, hb, hr, hml, hlocks, hown, hts, hN, hK, hA, hnm⟩ := C
  have hown : s.vm.findClass "TwoEndSearch$Moves" = some m.cls := hown
  have hl : lv_has ls 3 [(0, .ref (a 0))] := hl
  refine lv_aload_n hx hb d_M_add_0 rfl (lv_at hl 0 rfl) ?_
  refine wz_get (v := .int (nI k)) (T := T_M) (N := 4) hx hb hts i_M hown hK hP 0 0 rfl rfl rfl 3 (by decide) (hts _ kw_63) rfl rfl d_M_add_1 ?_
  refine lv_bipush (v := nI 6) hx hb d_M_add_4 (by decide) ?_
  refine wz_lt (tgt := 11) hx hb d_M_add_6 (by decide) (by omega) (by omega) (fun hc => ?_) (fun hc => ?_)
  · skip
    refine lv_aload_n hx hb d_M_add_11 rfl (lv_at hl 0 rfl) ?_
    refine wz_get (v := .int (nI k)) (T := T_M) (N := 4) hx hb hts i_M hown hK hP 0 0 rfl rfl rfl 3 (by decide) (hts _ kw_63) rfl rfl d_M_add_12 ?_
    refine lv_istore_n (lv' := [(1, .int (nI k)), (0, .ref (a 0))]) hx hb d_M_add_15 rfl hl (by decide) rfl (fun ls hl => ?_)
    refine lv_iconst (v := nI 0) hx hb d_M_add_16 (by decide) ?_
    refine lv_istore_n (lv' := [(2, .int (nI 0)), (1, .int (nI k)), (0, .ref (a 0))]) hx hb d_M_add_17 rfl hl (by decide) rfl (fun ls hl => ?_)
    have loop : ∀ (d : Nat) (i : Nat) (M1 : Nat → Nat → Int32), i ≤ 8 → 9 ≤ i + d → (∀ p, p < i → M1 k p = nI p ∧ M1 (k + 6) p = nI p) → (∀ j, j ≠ k → j ≠ k + 6 → M1 j = M j) → ∀ (H : Heap) (locs : List Loc) (ls : Array Slot), va_P D vwCl ([mv_W q a n k r f, wz_rows 12 r (fun i9 => .inl (q.1, 8, .inl (M1 i9)))] : wz_G).flatten H → va_D A ([mv_W q a n k r f, wz_rows 12 r (fun i9 => .inl (q.1, 8, .inl (M1 i9)))] : wz_G).flatten → va_S A s.heap H locs → lv_has ls 3 [(0, .ref (a 0)), (1, .int (nI k)), (2, .int (nI i))] → W p l e ({ frames := 1, cells := 0, slots := 0, locals := 23 } : Room) s m ([.ref (a 0)] : List Value).toArray below meth c H locs 0 0 (MQ below (va_Qi (po_M_add q a n k r f M) (wz_At D q A) A) ([.ref (a 0)] : List Value).toArray s 0 0 A) (F0 m 18 ls []) := by
      intro d
      induction d with
      | zero =>
        intro i M1 hi hd h1 h2
        omega
      | succ d ih =>
        intro i M1 hi hd h1 h2 H locs ls hP hD hS hl
        refine lv_iload_n hx hb d_M_add_18 rfl (lv_at hl 2 rfl) ?_
        refine lv_bipush (v := nI 8) hx hb d_M_add_19 (by decide) ?_
        refine wz_ge (tgt := 37) hx hb d_M_add_21 (by decide) (by omega) (by omega) (fun hc2 => ?_) (fun hc2 => ?_)
        · skip
          refine lv_aload_n hx hb d_M_add_37 rfl (lv_at hl 0 rfl) ?_
          refine wz_get (v := .ref (a 2)) (T := T_M) (N := 4) hx hb hts i_M hown hK hP 0 0 rfl rfl rfl 2 (by decide) (hts _ kw_62) rfl rfl d_M_add_38 ?_
          refine lv_iload_n hx hb d_M_add_41 rfl (lv_at hl 1 rfl) ?_
          refine lv_iconst (v := nI 1) hx hb d_M_add_42 (by decide) ?_
          refine wz_iast (gs' := [mv_W q a n k r (upd f k (nI 1)), wz_rows 12 r (fun i9 => .inl (q.1, 8, .inl (M1 i9)))]) hx hb hK hP hD hS 0 2 (j := k) rfl rfl (by omega) (by decide) d_M_add_43 rfl (fun H locs hP hD hS => ?_)
          refine lv_aload_n hx hb d_M_add_44 rfl (lv_at hl 0 rfl) ?_
          refine lv_dup hx hb d_M_add_45 rfl ?_
          refine wz_get (v := .int (nI k)) (T := T_M) (N := 4) hx hb hts i_M hown hK hP 0 0 rfl rfl rfl 3 (by decide) (hts _ kw_63) rfl rfl d_M_add_46 ?_
          refine lv_iconst (v := nI 1) hx hb d_M_add_49 (by decide) ?_
          refine lv_iadd hx hb d_M_add_50 ?_
          refine wz_topi (y := nI (k + 1)) (nI_add k 1) ?_
          refine wz_put (gs' := [mv_W q a n (k + 1) r (upd f k (nI 1)), wz_rows 12 r (fun i9 => .inl (q.1, 8, .inl (M1 i9)))]) (v := .int (nI (k + 1))) (T := T_M) (N := 4) hx hb hts i_M t_M t_M_ok n_M hown hK hP hD hS 0 0 rfl rfl rfl 3 (by decide) (hts _ kw_63) rfl rfl (ty := t_M 3) (by decide +kernel) rfl rfl (Nat.le_of_ble_eq_true rfl) d_M_add_51 rfl (fun H locs hP hD hS => ?_)
          refine lv_iload_n hx hb d_M_add_54 rfl (lv_at hl 1 rfl) ?_
          exact wz_iret hx hb hr hlocks hK hP hD hS d_M_add_55 (Or.inr ⟨hc, rfl, M1, rfl, fun p hp => h1 p (by omega), h2⟩)
        · skip
          refine lv_aload_n hx hb d_M_add_24 rfl (lv_at hl 0 rfl) ?_
          refine lv_iload_n hx hb d_M_add_25 rfl (lv_at hl 1 rfl) ?_
          refine lv_iload_n hx hb d_M_add_26 rfl (lv_at hl 2 rfl) ?_
          refine lv_iload_n hx hb d_M_add_27 rfl (lv_at hl 2 rfl) ?_
          have hQ := wz_split (n := 2) (gc := [mv_W q a n k r f, wz_rows 12 r (fun i9 => .inl (q.1, 8, .inl (M1 i9)))]) (gr := []) [0, 1] [] rfl (by decide) rfl rfl hP hD
          refine wz_callv (va_runV (As := [.int (nI k), .int (nI i), .int (nI i)]) (rest := []) ⟨hx, hb, hml, hown, hts⟩ (c_M_aim l D q a n k r f M1 k i i (by omega) (by omega) (by omega) _) (cwV 3 hts (wz_goodV kw_104 kw_106 kw_0 kw_32 kw_107) rfl rfl rfl (by decide +kernel) ⟨Nat.le_of_ble_eq_true rfl, Nat.le_of_ble_eq_true rfl⟩) (wz_preV (gi := 0) (k := 0) hN hK hQ wz_L_ok rfl rfl rfl) rfl rfl hl.1 rfl (lv_room (Nat.le_of_ble_eq_true rfl)) d_M_add_28 ⟨Nat.le_of_ble_eq_true rfl, Nat.le_of_ble_eq_true rfl⟩) hQ hS hA (fun gx H locs hp hP hD hS => ?_)
          have hp : gx = _ := hp
          subst hp
          obtain ⟨hP, hD⟩ := wz_ord (n := 2) (gs' := [mv_W q a n k r f, wz_rows 12 r (fun i9 => .inl (q.1, 8, .inl ((mv_aim M1 k i i) i9)))]) [0, 1] rfl (by decide) rfl hP hD
          refine lv_iinc (v := nI (i + 1)) (lv' := [(2, .int (nI (i + 1))), (0, .ref (a 0)), (1, .int (nI k))]) hx hb d_M_add_31 hl (k := 2) rfl (nI_1 i) (by decide) rfl (fun ls hl => ?_)
          refine lv_goto (tgt := 18) hx hb d_M_add_34 (by decide) ?_
          exact ih (i + 1) (mv_aim M1 k i i) (by omega) (by omega) (fun p hp => mv_aim_self h1 p hp) (fun j hj1 hj2 => (mv_aim_n M1 hj1 hj2).trans (h2 j hj1 hj2)) _ _ _ hP hD hS (lv_sub hl [1, 2, 0] rfl)
    exact loop 9 0 M (by omega) (by omega) (fun p hp => absurd hp (by omega)) (fun _ _ _ => rfl) _ _ _ hP hD hS (lv_sub hl [2, 1, 0] rfl)
  · skip
    refine lv_iconst (v := (-1)) hx hb d_M_add_9 (by decide) ?_
    exact wz_iret hx hb hr hlocks hK hP hD hS d_M_add_10 (Or.inl ⟨by omega, rfl, rfl⟩)
def po_M_bring (q : wz_Q) (a : Nat → Nat) (n k : Nat) (r : Nat → Nat) (f : Nat → Int32) (M : Nat → Nat → Int32) (u cd : Nat) (sg tu : Nat → Nat) : Int32 → wz_G → Prop := fun v w => w = [mv_W q a n k r f, wz_rows 12 r (fun i9 => .inl (q.1, 8, .inl (M i9)))] ∧ v = nI (pz_act n tu cd)
set_option maxHeartbeats 4000000 in
set_option maxRecDepth 100000 in
/-- a state with a move done to it -/
theorem c_M_bring (l : Launch) (D : va_G) (q : wz_Q) (a : Nat → Nat) (n k : Nat) (r : Nat → Nat) (f : Nat → Int32) (M : Nat → Nat → Int32) (u cd : Nat) (sg tu : Nat → Nat) (hn : n ≤ 8) (hu : u < 12) (hc8 : cd < 8 ^ n) (hs : ∀ p, p < n → M u p = nI (sg p)) (hpm : pz_perm n sg tu) : wz_Mi l y_M_bring ws_M_bring ({ frames := 0, cells := 0, slots := 0, locals := 0 } : Room) D q ([.ref (a 0), .int (nI u), .int (nI cd)] : List Value) [mv_W q a n k r f, wz_rows 12 r (fun i9 => .inl (q.1, 8, .inl (M i9)))] (po_M_bring q a n k r f M u cd sg tu) 0 0 := by
  intro sz9
  refine wz_enter (cc := b_M_bring) (maxL := 7) (ret := (some .int)) (Qc := fun A => (va_Qi (po_M_bring q a n k r f M u cd sg tu) (wz_At D q A) A)) (by decide) (Nat.le_of_ble_eq_true rfl) ?_
  intro p e s m below meth c A ls C hP hD hS hl
  obtain ⟨hx, hb, hr, hml, hlocks, hown, hts, hN, hK, hA, hnm⟩ := C
  have hown : s.vm.findClass "TwoEndSearch$Moves" = some m.cls := hown
  have hl : lv_has ls 7 [(0, .ref (a 0)), (1, .int (nI u)), (2, .int (nI cd))] := hl
  have hc24 := pz_lt31 hn hc8
  refine lv_aload_n hx hb d_M_bring_0 rfl (lv_at hl 0 rfl) ?_
  refine wz_get (v := .ref (a 1)) (T := T_M) (N := 4) hx hb hts i_M hown hK hP 0 0 rfl rfl rfl 1 (by decide) (hts _ kw_61) rfl rfl d_M_bring_1 ?_
  refine lv_iload_n hx hb d_M_bring_4 rfl (lv_at hl 1 rfl) ?_
  refine wz_aald hx hb hK hP 0 1 (j := u) (r := r) rfl rfl (by omega) (by decide) d_M_bring_5 ?_
  refine lv_astore_n (lv' := [(3, .ref (r u)), (0, .ref (a 0)), (1, .int (nI u)), (2, .int (nI cd))]) hx hb d_M_bring_6 rfl hl (by decide) rfl (fun ls hl => ?_)
  refine lv_iconst (v := nI 0) hx hb d_M_bring_7 (by decide) ?_
  refine lv_istore (lv' := [(4, .int (nI 0)), (3, .ref (r u)), (0, .ref (a 0)), (1, .int (nI u)), (2, .int (nI cd))]) hx hb d_M_bring_8 hl (by decide) rfl (fun ls hl => ?_)
  refine lv_iload_n hx hb d_M_bring_10 rfl (lv_at hl 4 rfl) ?_
  refine lv_istore (lv' := [(5, .int (nI cd)), (4, .int (nI 0)), (3, .ref (r u)), (0, .ref (a 0)), (1, .int (nI u)), (2, .int (nI cd))]) hx hb d_M_bring_11 hl (by decide) rfl (fun ls hl => ?_)
  refine lv_iconst (v := nI 0) hx hb d_M_bring_13 (by decide) ?_
  refine lv_istore (lv' := [(6, .int (nI 0)), (5, .int (nI cd)), (4, .int (nI 0)), (3, .ref (r u)), (0, .ref (a 0)), (1, .int (nI u)), (2, .int (nI cd))]) hx hb d_M_bring_14 hl (by decide) rfl (fun ls hl => ?_)
  have loop : ∀ (d : Nat) (i B : Nat), i ≤ n → n + 1 ≤ i + d → mv_br n cd i tu B → ∀ (H : Heap) (locs : List Loc) (ls : Array Slot), va_P D vwCl ([mv_W q a n k r f, wz_rows 12 r (fun i9 => .inl (q.1, 8, .inl (M i9)))] : wz_G).flatten H → va_D A ([mv_W q a n k r f, wz_rows 12 r (fun i9 => .inl (q.1, 8, .inl (M i9)))] : wz_G).flatten → va_S A s.heap H locs → lv_has ls 7 [(0, .ref (a 0)), (1, .int (nI u)), (2, .int (nI cd)), (3, .ref (r u)), (4, .int (nI B)), (5, .int (nI (cd / 8 ^ i))), (6, .int (nI i))] → W p l e ({ frames := 0, cells := 0, slots := 0, locals := 0 } : Room) s m ([.ref (a 0), .int (nI u), .int (nI cd)] : List Value).toArray below meth c H locs 0 0 (MQ below (va_Qi (po_M_bring q a n k r f M u cd sg tu) (wz_At D q A) A) ([.ref (a 0), .int (nI u), .int (nI cd)] : List Value).toArray s 0 0 A) (F0 m 16 ls []) := by
    intro d
    induction d with
    | zero =>
      intro i B hi hd hB
      omega
    | succ d ih =>
      intro i B hi hd hB H locs ls hP hD hS hl
      refine lv_iload hx hb d_M_bring_16 (lv_at hl 6 rfl) ?_
      refine lv_aload_n hx hb d_M_bring_18 rfl (lv_at hl 0 rfl) ?_
      refine wz_get (v := .int (nI n)) (T := T_M) (N := 4) hx hb hts i_M hown hK hP 0 0 rfl rfl rfl 0 (by decide) (hts _ kw_60) rfl rfl d_M_bring_19 ?_
      refine wz_ge (tgt := 54) hx hb d_M_bring_22 (by decide) (by omega) (by omega) (fun hc2 => ?_) (fun hc2 => ?_)
      · skip
        have hin : i = n := by omega
        subst hin
        refine lv_iload hx hb d_M_bring_54 (lv_at hl 4 rfl) ?_
        exact wz_iret hx hb hr hlocks hK hP hD hS d_M_bring_56 ⟨rfl, by rw [mv_br_e hpm hB hc8]⟩
      · skip
        have hdl := pz_divlt hn hc8 i
        have hsl := (hpm i hc2).1
        refine lv_iload hx hb d_M_bring_25 (lv_at hl 4 rfl) ?_
        refine lv_iload hx hb d_M_bring_27 (lv_at hl 5 rfl) ?_
        refine lv_bipush (v := nI 7) hx hb d_M_bring_29 (by decide) ?_
        refine lv_iand hx hb d_M_bring_31 ?_
        refine wz_topi (y := nI (pz_dg cd i)) (pz_and7 (by omega)) ?_
        refine lv_iconst (v := nI 3) hx hb d_M_bring_32 (by decide) ?_
        refine lv_aload_n hx hb d_M_bring_33 rfl (lv_at hl 3 rfl) ?_
        refine lv_iload hx hb d_M_bring_34 (lv_at hl 6 rfl) ?_
        refine wz_iald hx hb hK hP 1 u (j := i) rfl (wz_rows_get (by omega)) (by omega) (by decide) d_M_bring_36 ?_
        refine wz_topi (y := nI (sg i)) (hs i hc2) ?_
        refine lv_imul hx hb d_M_bring_37 ?_
        refine wz_topi (y := nI (3 * (sg i))) (pk_mul 3 (sg i)) ?_
        refine lv_ishl hx hb d_M_bring_38 ?_
        refine wz_topi (y := nI (pz_dg cd i * 8 ^ sg i)) (pz_shl (pz_dg_lt _ _) (by omega)) ?_
        refine lv_ior hx hb d_M_bring_39 ?_
        refine wz_topi (y := nI (B + pz_dg cd i * 8 ^ sg i)) (mv_or hpm hB hc2) ?_
        refine lv_istore (lv' := [(4, .int (nI (B + pz_dg cd i * 8 ^ sg i))), (0, .ref (a 0)), (1, .int (nI u)), (2, .int (nI cd)), (3, .ref (r u)), (5, .int (nI (cd / 8 ^ i))), (6, .int (nI i))]) hx hb d_M_bring_40 hl (by decide) rfl (fun ls hl => ?_)
        refine lv_iload hx hb d_M_bring_42 (lv_at hl 5 rfl) ?_
        refine lv_iconst (v := nI 3) hx hb d_M_bring_44 (by decide) ?_
        refine lv_iushr (v := nI (cd / 8 ^ (i + 1))) hx hb d_M_bring_45 ((pz_ushr3 (by omega)).trans (congrArg nI (pz_div8 cd i))) ?_
        refine lv_istore (lv' := [(5, .int (nI (cd / 8 ^ (i + 1)))), (4, .int (nI (B + pz_dg cd i * 8 ^ sg i))), (0, .ref (a 0)), (1, .int (nI u)), (2, .int (nI cd)), (3, .ref (r u)), (6, .int (nI i))]) hx hb d_M_bring_46 hl (by decide) rfl (fun ls hl => ?_)
        refine lv_iinc (v := nI (i + 1)) (lv' := [(6, .int (nI (i + 1))), (5, .int (nI (cd / 8 ^ (i + 1)))), (4, .int (nI (B + pz_dg cd i * 8 ^ sg i))), (0, .ref (a 0)), (1, .int (nI u)), (2, .int (nI cd)), (3, .ref (r u))]) hx hb d_M_bring_48 hl (k := 6) rfl (nI_1 i) (by decide) rfl (fun ls hl => ?_)
        refine lv_goto (tgt := 16) hx hb d_M_bring_51 (by decide) ?_
        exact ih (i + 1) (B + pz_dg cd i * 8 ^ sg i) (by omega) (by omega) (mv_br_s hpm hB hc2) _ _ _ hP hD hS (lv_sub hl [3, 4, 5, 6, 2, 1, 0] rfl)
  have e0 : nI cd = nI (cd / 8 ^ 0) := by rw [Nat.pow_zero, Nat.div_one]
  exact loop (n + 1) 0 0 (by omega) (by omega) (mv_br_0 n cd tu) _ _ _ hP hD hS (by have h9 := lv_sub hl [4, 5, 6, 3, 2, 1, 0] rfl; rw [show nI (cd / 8 ^ 0) = nI cd by rw [Nat.pow_zero, Nat.div_one]]; exact h9)
def po_X_firstState (q : wz_Q) (n : Nat) : Int32 → wz_G → Prop := fun v w => w = [] ∧ v = nI (pz_first n)
set_option maxHeartbeats 4000000 in
set_option maxRecDepth 100000 in
/-- label p at place p -/
theorem c_X_firstState (l : Launch) (D : va_G) (q : wz_Q) (n : Nat) (hn : n ≤ 8) : wz_Mi l y_X_firstState ws_X_firstState ({ frames := 0, cells := 0, slots := 0, locals := 0 } : Room) D q ([.int (nI n)] : List Value) [] (po_X_firstState q n) 0 0 := by
  intro sz9
  refine wz_enter (cc := b_X_firstState) (maxL := 3) (ret := (some .int)) (Qc := fun A => (va_Qi (po_X_firstState q n) (wz_At D q A) A)) (by decide) (Nat.le_of_ble_eq_true rfl) ?_
  intro p e s m below meth c A ls C hP hD hS hl
  obtain ⟨hx, hb, hr, hml, hlocks, hown, hts, hN, hK, hA, hnm⟩ := C
  have hown : s.vm.findClass "TwoEndSearch" = some m.cls := hown
  have hl : lv_has ls 3 [(0, .int (nI n))] := hl
  refine lv_iconst (v := nI 0) hx hb d_X_firstState_0 (by decide) ?_
  refine lv_istore_n (lv' := [(1, .int (nI 0)), (0, .int (nI n))]) hx hb d_X_firstState_1 rfl hl (by decide) rfl (fun ls hl => ?_)
  refine lv_iconst (v := nI 0) hx hb d_X_firstState_2 (by decide) ?_
  refine lv_istore_n (lv' := [(2, .int (nI 0)), (1, .int (nI 0)), (0, .int (nI n))]) hx hb d_X_firstState_3 rfl hl (by decide) rfl (fun ls hl => ?_)
  have loop : ∀ (d : Nat) (i : Nat), i ≤ n → n + 1 ≤ i + d → ∀ (H : Heap) (locs : List Loc) (ls : Array Slot), va_P D vwCl ([] : wz_G).flatten H → va_D A ([] : wz_G).flatten → va_S A s.heap H locs → lv_has ls 3 [(0, .int (nI n)), (1, .int (nI (pz_first i))), (2, .int (nI i))] → W p l e ({ frames := 0, cells := 0, slots := 0, locals := 0 } : Room) s m ([.int (nI n)] : List Value).toArray below meth c H locs 0 0 (MQ below (va_Qi (po_X_firstState q n) (wz_At D q A) A) ([.int (nI n)] : List Value).toArray s 0 0 A) (F0 m 4 ls []) := by
    intro d
    induction d with
    | zero =>
      intro i hi hd
      omega
    | succ d ih =>
      intro i hi hd H locs ls hP hD hS hl
      refine lv_iload_n hx hb d_X_firstState_4 rfl (lv_at hl 2 rfl) ?_
      refine lv_iload_n hx hb d_X_firstState_5 rfl (lv_at hl 0 rfl) ?_
      refine wz_ge (tgt := 23) hx hb d_X_firstState_6 (by decide) (by omega) (by omega) (fun hc2 => ?_) (fun hc2 => ?_)
      · skip
        have hin : i = n := by omega
        subst hin
        refine lv_iload_n hx hb d_X_firstState_23 rfl (lv_at hl 1 rfl) ?_
        exact wz_iret hx hb hr hlocks hK hP hD hS d_X_firstState_24 ⟨rfl, rfl⟩
      · skip
        refine lv_iload_n hx hb d_X_firstState_9 rfl (lv_at hl 1 rfl) ?_
        refine lv_iload_n hx hb d_X_firstState_10 rfl (lv_at hl 2 rfl) ?_
        refine lv_iconst (v := nI 3) hx hb d_X_firstState_11 (by decide) ?_
        refine lv_iload_n hx hb d_X_firstState_12 rfl (lv_at hl 2 rfl) ?_
        refine lv_imul hx hb d_X_firstState_13 ?_
        refine wz_topi (y := nI (3 * i)) (pk_mul 3 i) ?_
        refine lv_ishl hx hb d_X_firstState_14 ?_
        refine wz_topi (y := nI (i * 8 ^ i)) (pz_shl (by omega) (by omega)) ?_
        refine lv_ior hx hb d_X_firstState_15 ?_
        refine wz_topi (y := nI (pz_first (i + 1))) ((pz_nI_or _ _).trans (congrArg nI (pz_first_or (by omega)))) ?_
        refine lv_istore_n (lv' := [(1, .int (nI (pz_first (i + 1)))), (0, .int (nI n)), (2, .int (nI i))]) hx hb d_X_firstState_16 rfl hl (by decide) rfl (fun ls hl => ?_)
        refine lv_iinc (v := nI (i + 1)) (lv' := [(2, .int (nI (i + 1))), (1, .int (nI (pz_first (i + 1)))), (0, .int (nI n))]) hx hb d_X_firstState_17 hl (k := 2) rfl (nI_1 i) (by decide) rfl (fun ls hl => ?_)
        refine lv_goto (tgt := 4) hx hb d_X_firstState_20 (by decide) ?_
        exact ih (i + 1) (by omega) (by omega) _ _ _ hP hD hS (lv_sub hl [2, 1, 0] rfl)
  exact loop (n + 1) 0 (by omega) (by omega) _ _ _ hP hD hS (lv_sub hl [2, 1, 0] rfl)
def po_M_countOrder (q : wz_Q) (a : Nat → Nat) (n k : Nat) (r : Nat → Nat) (f : Nat → Int32) (M : Nat → Nat → Int32) (o : Nat) (sg tu : Nat → Nat) : Int32 → wz_G → Prop := fun v w => w = [mv_W q a n k r f, wz_rows 12 r (fun i9 => .inl (q.1, 8, .inl (M i9)))] ∧ ∃ o', v = nI o' ∧ pz_od n sg o'
set_option maxHeartbeats 4000000 in
set_option maxRecDepth 100000 in
/-- a move's order, counted -/
theorem c_M_countOrder (l : Launch) (D : va_G) (q : wz_Q) (a : Nat → Nat) (n k : Nat) (r : Nat → Nat) (f : Nat → Int32) (M : Nat → Nat → Int32) (o : Nat) (sg tu : Nat → Nat) (hn : n ≤ 8) (ho : o < 6) (hs : ∀ p, p < n → M o p = nI (sg p)) (hpm : pz_perm n sg tu) : wz_Mi l y_M_countOrder ws_M_countOrder ({ frames := 1, cells := 0, slots := 0, locals := 26 } : Room) D q ([.ref (a 0), .int (nI o)] : List Value) [mv_W q a n k r f, wz_rows 12 r (fun i9 => .inl (q.1, 8, .inl (M i9)))] (po_M_countOrder q a n k r f M o sg tu) 0 0 := by
  intro sz9
  refine wz_enter (cc := b_M_countOrder) (maxL := 5) (ret := (some .int)) (Qc := fun A => (va_Qi (po_M_countOrder q a n k r f M o sg tu) (wz_At D q A) A)) (by decide) (Nat.le_of_ble_eq_true rfl) ?_
  intro p e s m below meth c A ls C hP hD hS hl
  obtain ⟨hx, hb, hr, hml, hlocks, hown, hts, hN, hK, hA, hnm⟩ := C
  have hown : s.vm.findClass "TwoEndSearch$Moves" = some m.cls := hown
  have hl : lv_has ls 5 [(0, .ref (a 0)), (1, .int (nI o))] := hl
  refine lv_aload_n hx hb d_M_countOrder_0 rfl (lv_at hl 0 rfl) ?_
  refine wz_get (v := .int (nI n)) (T := T_M) (N := 4) hx hb hts i_M hown hK hP 0 0 rfl rfl rfl 0 (by decide) (hts _ kw_60) rfl rfl d_M_countOrder_1 ?_
  have hQ := wz_split (n := 2) (gc := []) (gr := [mv_W q a n k r f, wz_rows 12 r (fun i9 => .inl (q.1, 8, .inl (M i9)))]) [] [0, 1] rfl (by decide) rfl rfl hP hD
  refine wz_calli (va_runSN (As := [.int (nI n)]) (rest := []) ⟨hx, hb, hml, hown, hts⟩ (c_X_firstState l D q n hn _) ⟨va_cnB 1 hts (wz_good kw_79) rfl rfl rfl (hN _ (List.mem_of_getElem? (i := 3) rfl)) (hts _ kw_30) (by decide +kernel) ⟨Nat.le_of_ble_eq_true rfl, Nat.le_of_ble_eq_true rfl⟩, hts _ kw_78, trivial⟩ (wz_preS hN hK hQ wz_L_ok) rfl rfl hl.1 rfl (lv_room (Nat.le_of_ble_eq_true rfl)) d_M_countOrder_4 ⟨Nat.le_of_ble_eq_true rfl, Nat.le_of_ble_eq_true rfl⟩) hQ hS hA (fun v_4 gx H locs hp hP hD hS => ?_)
  obtain ⟨rfl, rfl⟩ := hp
  obtain ⟨hP, hD⟩ := wz_ord (n := 2) (gs' := [mv_W q a n k r f, wz_rows 12 r (fun i9 => .inl (q.1, 8, .inl (M i9)))]) [0, 1] rfl (by decide) rfl hP hD
  have hF := pz_lt31 hn (pz_first_lt hn)
  refine lv_istore_n (lv' := [(2, .int (nI (pz_first n))), (0, .ref (a 0)), (1, .int (nI o))]) hx hb d_M_countOrder_7 rfl hl (by decide) rfl (fun ls hl => ?_)
  refine lv_iload_n hx hb d_M_countOrder_8 rfl (lv_at hl 0 rfl) ?_
  refine lv_istore_n (lv' := [(3, .int (nI (pz_first n))), (2, .int (nI (pz_first n))), (0, .ref (a 0)), (1, .int (nI o))]) hx hb d_M_countOrder_9 rfl hl (by decide) rfl (fun ls hl => ?_)
  refine lv_iconst (v := nI 1) hx hb d_M_countOrder_10 (by decide) ?_
  refine lv_istore (lv' := [(4, .int (nI 1)), (3, .int (nI (pz_first n))), (2, .int (nI (pz_first n))), (0, .ref (a 0)), (1, .int (nI o))]) hx hb d_M_countOrder_11 hl (by decide) rfl (fun ls hl => ?_)
  have loop : ∀ (d : Nat) (j : Nat), j ≤ 14 → 15 ≤ j + d → (∀ i, 0 < i → i < j + 1 → pz_it (pz_act n tu) i (pz_first n) ≠ pz_first n) → ∀ (H : Heap) (locs : List Loc) (ls : Array Slot), va_P D vwCl ([mv_W q a n k r f, wz_rows 12 r (fun i9 => .inl (q.1, 8, .inl (M i9)))] : wz_G).flatten H → va_D A ([mv_W q a n k r f, wz_rows 12 r (fun i9 => .inl (q.1, 8, .inl (M i9)))] : wz_G).flatten → va_S A s.heap H locs → lv_has ls 5 [(0, .ref (a 0)), (1, .int (nI o)), (2, .int (nI (pz_first n))), (3, .int (nI (pz_it (pz_act n tu) j (pz_first n)))), (4, .int (nI (j + 1)))] → W p l e ({ frames := 1, cells := 0, slots := 0, locals := 26 } : Room) s m ([.ref (a 0), .int (nI o)] : List Value).toArray below meth c H locs 0 0 (MQ below (va_Qi (po_M_countOrder q a n k r f M o sg tu) (wz_At D q A) A) ([.ref (a 0), .int (nI o)] : List Value).toArray s 0 0 A) (F0 m 13 ls []) := by
    intro d
    induction d with
    | zero =>
      intro j hj hd hno
      omega
    | succ d ih =>
      intro j hj hd hno H locs ls hP hD hS hl
      refine lv_iload hx hb d_M_countOrder_13 (lv_at hl 4 rfl) ?_
      refine lv_bipush (v := nI 15) hx hb d_M_countOrder_15 (by decide) ?_
      refine wz_ge (tgt := 41) hx hb d_M_countOrder_17 (by decide) (by omega) (by omega) (fun hc2 => ?_) (fun hc2 => ?_)
      · skip
        refine lv_bipush (v := nI 15) hx hb d_M_countOrder_41 (by decide) ?_
        exact wz_iret hx hb hr hlocks hK hP hD hS d_M_countOrder_43 ⟨rfl, 15, rfl, mv_od_15 hn hpm (fun i h0 h1 => hno i h0 (by omega))⟩
      · skip
        refine lv_aload_n hx hb d_M_countOrder_20 rfl (lv_at hl 0 rfl) ?_
        refine lv_iload_n hx hb d_M_countOrder_21 rfl (lv_at hl 1 rfl) ?_
        refine lv_iload_n hx hb d_M_countOrder_22 rfl (lv_at hl 3 rfl) ?_
        have hQ := wz_split (n := 2) (gc := [mv_W q a n k r f, wz_rows 12 r (fun i9 => .inl (q.1, 8, .inl (M i9)))]) (gr := []) [0, 1] [] rfl (by decide) rfl rfl hP hD
        refine wz_calli (va_runV (As := [.int (nI o), .int (nI (pz_it (pz_act n tu) j (pz_first n)))]) (rest := []) ⟨hx, hb, hml, hown, hts⟩ (c_M_bring l D q a n k r f M o (pz_it (pz_act n tu) j (pz_first n)) sg tu hn (by omega) (pz_it_act (fun p hp => (hpm p hp).2.1) (pz_first_lt hn) j).1 hs hpm _) (cwV 2 hts (wz_goodV kw_137 kw_138 kw_139 kw_32 kw_140) rfl rfl rfl (by decide +kernel) ⟨Nat.le_of_ble_eq_true rfl, Nat.le_of_ble_eq_true rfl⟩) (wz_preV (gi := 0) (k := 0) hN hK hQ wz_L_ok rfl rfl rfl) rfl rfl hl.1 rfl (lv_room (Nat.le_of_ble_eq_true rfl)) d_M_countOrder_23 ⟨Nat.le_of_ble_eq_true rfl, Nat.le_of_ble_eq_true rfl⟩) hQ hS hA (fun v_23 gx H locs hp hP hD hS => ?_)
        obtain ⟨rfl, rfl⟩ := hp
        obtain ⟨hP, hD⟩ := wz_ord (n := 2) (gs' := [mv_W q a n k r f, wz_rows 12 r (fun i9 => .inl (q.1, 8, .inl (M i9)))]) [0, 1] rfl (by decide) rfl hP hD
        have hX := pz_lt31 hn (pz_it_act (fun p hp => (hpm p hp).2.1) (pz_first_lt hn) (j + 1)).1
        refine wz_topi (y := nI (pz_it (pz_act n tu) (j + 1) (pz_first n))) rfl ?_
        refine lv_istore_n (lv' := [(3, .int (nI (pz_it (pz_act n tu) (j + 1) (pz_first n)))), (0, .ref (a 0)), (1, .int (nI o)), (2, .int (nI (pz_first n))), (4, .int (nI (j + 1)))]) hx hb d_M_countOrder_26 rfl hl (by decide) rfl (fun ls hl => ?_)
        refine lv_iload_n hx hb d_M_countOrder_27 rfl (lv_at hl 0 rfl) ?_
        refine lv_iload_n hx hb d_M_countOrder_28 rfl (lv_at hl 3 rfl) ?_
        refine wz_ne (tgt := 35) hx hb d_M_countOrder_29 (by decide) (by omega) (by omega) (fun hc3 => ?_) (fun hc3 => ?_)
        · skip
          refine lv_iinc (v := nI ((j + 1) + 1)) (lv' := [(4, .int (nI ((j + 1) + 1))), (3, .int (nI (pz_it (pz_act n tu) (j + 1) (pz_first n)))), (0, .ref (a 0)), (1, .int (nI o)), (2, .int (nI (pz_first n)))]) hx hb d_M_countOrder_35 hl (k := 4) rfl (nI_1 (j + 1)) (by decide) rfl (fun ls hl => ?_)
          refine lv_goto (tgt := 13) hx hb d_M_countOrder_38 (by decide) ?_
          exact ih (j + 1) (by omega) (by omega) (fun i h0 h1 => by by_cases e : i = j + 1; (subst e; exact hc3); exact hno i h0 (by omega)) _ _ _ hP hD hS (lv_sub hl [2, 3, 4, 1, 0] rfl)
        · skip
          refine lv_iload hx hb d_M_countOrder_32 (lv_at hl 4 rfl) ?_
          exact wz_iret hx hb hr hlocks hK hP hD hS d_M_countOrder_34 ⟨rfl, j + 1, rfl, mv_od_at hn hpm (by omega) (by omega) hc3 hno⟩
  exact loop 15 0 (by omega) (by omega) (fun i h0 h1 => absurd h1 (by omega)) _ _ _ hP hD hS (lv_sub hl [3, 4, 2, 1, 0] rfl)
def po_M_lengthen (q : wz_Q) (a : Nat → Nat) (n k : Nat) (r : Nat → Nat) (f : Nat → Int32) (M : Nat → Nat → Int32) (x y z : Int32) (sg tu : Nat → Nat → Nat) (od : Nat → Nat) : Int32 → wz_G → Prop := fun v w => (v = 0 ∧ w = [mv_W q a n k r f, wz_rows 12 r (fun i9 => .inl (q.1, 8, .inl (M i9)))] ∧ ¬ ∃ mo fr t, mv_can n k sg x y z mo fr t) ∨ (v = 1 ∧ ∃ (mo fr t o' : Nat) (f' : Nat → Int32) (M' : Nat → Nat → Int32), mv_can n k sg x y z mo fr t ∧ pz_od n (pz_cyc (sg mo) fr t) o' ∧ w = [mv_W q a n k r f', wz_rows 12 r (fun i9 => .inl (q.1, 8, .inl (M' i9)))] ∧ mv_ok n k f' M' (pz_up sg mo (pz_cyc (sg mo) fr t)) (pz_up tu mo (pz_cyi (sg mo) (tu mo) fr t)) (pz_up od mo o'))
set_option maxHeartbeats 4000000 in
set_option maxRecDepth 100000 in
/-- a move is lengthened -/
theorem c_M_lengthen (l : Launch) (D : va_G) (q : wz_Q) (a : Nat → Nat) (n k : Nat) (r : Nat → Nat) (f : Nat → Int32) (M : Nat → Nat → Int32) (x y z : Int32) (sg tu : Nat → Nat → Nat) (od : Nat → Nat) (hn : n ≤ 8) (hk : k ≤ 6) (hok : mv_ok n k f M sg tu od) : wz_Mi l y_M_lengthen ws_M_lengthen ({ frames := 2, cells := 0, slots := 0, locals := 50 } : Room) D q ([.ref (a 0), .int x, .int y, .int z] : List Value) [mv_W q a n k r f, wz_rows 12 r (fun i9 => .inl (q.1, 8, .inl (M i9)))] (po_M_lengthen q a n k r f M x y z sg tu od) 0 0 := by
  intro sz9
  refine wz_enter (cc := b_M_lengthen) (maxL := 5) (ret := (some .boolean)) (Qc := fun A => (va_Qi (po_M_lengthen q a n k r f M x y z sg tu od) (wz_At D q A) A)) (by decide) (Nat.le_of_ble_eq_true rfl) ?_
  intro p e s m below meth c A ls C hP hD hS hl
  obtain ⟨hx, hb, hr, hml, hlocks, hown, hts, hN, hK, hA, hnm⟩ := C
  have hown : s.vm.findClass "TwoEndSearch$Moves" = some m.cls := hown
  have hl : lv_has ls 5 [(0, .ref (a 0)), (1, .int x), (2, .int y), (3, .int z)] := hl
  refine lv_aload_n hx hb d_M_lengthen_0 rfl (lv_at hl 0 rfl) ?_
  refine lv_iload_n hx hb d_M_lengthen_1 rfl (lv_at hl 1 rfl) ?_
  have hQ := wz_split (n := 2) (gc := [mv_W q a n k r f]) (gr := [wz_rows 12 r (fun i9 => .inl (q.1, 8, .inl (M i9)))]) [0] [1] rfl (by decide) rfl rfl hP hD
  refine wz_calli (va_runV (As := [.int x]) (rest := []) ⟨hx, hb, hml, hown, hts⟩ (c_M_has l D q a n k r f x hk _) (cwV 1 hts (wz_goodV kw_124 kw_125 kw_126 kw_32 kw_127) rfl rfl rfl (by decide +kernel) ⟨Nat.le_of_ble_eq_true rfl, Nat.le_of_ble_eq_true rfl⟩) (wz_preV (gi := 0) (k := 0) hN hK hQ wz_L_ok rfl rfl rfl) rfl rfl hl.1 rfl (lv_room (Nat.le_of_ble_eq_true rfl)) d_M_lengthen_2 ⟨Nat.le_of_ble_eq_true rfl, Nat.le_of_ble_eq_true rfl⟩) hQ hS hA (fun v_2 gx H locs hp0 hP hD hS => ?_)
  obtain ⟨rfl, hp0⟩ := hp0
  obtain ⟨hP, hD⟩ := wz_ord (n := 2) (gs' := [mv_W q a n k r f, wz_rows 12 r (fun i9 => .inl (q.1, 8, .inl (M i9)))]) [0, 1] rfl (by decide) rfl hP hD
  refine lv_if_eq (tgt := 29) hx hb d_M_lengthen_5 (by decide) (fun hc => ?_) (fun hc => ?_)
  · skip
    refine lv_iconst (v := nI 0) hx hb d_M_lengthen_29 (by decide) ?_
    exact wz_zret hx hb hr hlocks hK hP hD hS d_M_lengthen_30 (by first | exact Or.inl rfl | exact Or.inr rfl) (Or.inl ⟨rfl, rfl, fun ⟨mo, fr, t, q⟩ => wz_bit_0 hp0 hc ⟨mo, q.1, q.2.2.2.1⟩⟩)
  · skip
    obtain ⟨mo, hmo, rfl⟩ := wz_bit_1 hp0 hc
    refine lv_aload_n hx hb d_M_lengthen_8 rfl (lv_at hl 0 rfl) ?_
    refine lv_iload_n hx hb d_M_lengthen_9 rfl (lv_at hl 2 rfl) ?_
    have hQ := wz_split (n := 2) (gc := [mv_W q a n k r f]) (gr := [wz_rows 12 r (fun i9 => .inl (q.1, 8, .inl (M i9)))]) [0] [1] rfl (by decide) rfl rfl hP hD
    refine wz_calli (va_runV (As := [.int y]) (rest := []) ⟨hx, hb, hml, hown, hts⟩ (c_M_isPlace l D q a n k r f y hn _) (cwV 1 hts (wz_goodV kw_128 kw_130 kw_2 kw_32 kw_131) rfl rfl rfl (by decide +kernel) ⟨Nat.le_of_ble_eq_true rfl, Nat.le_of_ble_eq_true rfl⟩) (wz_preV (gi := 0) (k := 0) hN hK hQ wz_L_ok rfl rfl rfl) rfl rfl hl.1 rfl (lv_room (Nat.le_of_ble_eq_true rfl)) d_M_lengthen_10 ⟨Nat.le_of_ble_eq_true rfl, Nat.le_of_ble_eq_true rfl⟩) hQ hS hA (fun v_10 gx H locs hp1 hP hD hS => ?_)
    obtain ⟨rfl, hp1⟩ := hp1
    obtain ⟨hP, hD⟩ := wz_ord (n := 2) (gs' := [mv_W q a n k r f, wz_rows 12 r (fun i9 => .inl (q.1, 8, .inl (M i9)))]) [0, 1] rfl (by decide) rfl hP hD
    refine lv_if_eq (tgt := 29) hx hb d_M_lengthen_13 (by decide) (fun hc1 => ?_) (fun hc1 => ?_)
    · skip
      refine lv_iconst (v := nI 0) hx hb d_M_lengthen_29 (by decide) ?_
      exact wz_zret hx hb hr hlocks hK hP hD hS d_M_lengthen_30 (by first | exact Or.inl rfl | exact Or.inr rfl) (Or.inl ⟨rfl, rfl, fun ⟨mo, fr, t, q⟩ => wz_bit_0 hp1 hc1 ⟨fr, q.2.1, q.2.2.2.2.1⟩⟩)
    · skip
      obtain ⟨fr, hfr, rfl⟩ := wz_bit_1 hp1 hc1
      refine lv_aload_n hx hb d_M_lengthen_16 rfl (lv_at hl 0 rfl) ?_
      refine lv_iload_n hx hb d_M_lengthen_17 rfl (lv_at hl 3 rfl) ?_
      have hQ := wz_split (n := 2) (gc := [mv_W q a n k r f]) (gr := [wz_rows 12 r (fun i9 => .inl (q.1, 8, .inl (M i9)))]) [0] [1] rfl (by decide) rfl rfl hP hD
      refine wz_calli (va_runV (As := [.int z]) (rest := []) ⟨hx, hb, hml, hown, hts⟩ (c_M_isPlace l D q a n k r f z hn _) (cwV 1 hts (wz_goodV kw_128 kw_130 kw_2 kw_32 kw_131) rfl rfl rfl (by decide +kernel) ⟨Nat.le_of_ble_eq_true rfl, Nat.le_of_ble_eq_true rfl⟩) (wz_preV (gi := 0) (k := 0) hN hK hQ wz_L_ok rfl rfl rfl) rfl rfl hl.1 rfl (lv_room (Nat.le_of_ble_eq_true rfl)) d_M_lengthen_18 ⟨Nat.le_of_ble_eq_true rfl, Nat.le_of_ble_eq_true rfl⟩) hQ hS hA (fun v_18 gx H locs hp2 hP hD hS => ?_)
      obtain ⟨rfl, hp2⟩ := hp2
      obtain ⟨hP, hD⟩ := wz_ord (n := 2) (gs' := [mv_W q a n k r f, wz_rows 12 r (fun i9 => .inl (q.1, 8, .inl (M i9)))]) [0, 1] rfl (by decide) rfl hP hD
      refine lv_if_eq (tgt := 29) hx hb d_M_lengthen_21 (by decide) (fun hc2 => ?_) (fun hc2 => ?_)
      · skip
        refine lv_iconst (v := nI 0) hx hb d_M_lengthen_29 (by decide) ?_
        exact wz_zret hx hb hr hlocks hK hP hD hS d_M_lengthen_30 (by first | exact Or.inl rfl | exact Or.inr rfl) (Or.inl ⟨rfl, rfl, fun ⟨mo, fr, t, q⟩ => wz_bit_0 hp2 hc2 ⟨t, q.2.2.1, q.2.2.2.2.2.1⟩⟩)
      · skip
        obtain ⟨t, ht, rfl⟩ := wz_bit_1 hp2 hc2
        have hO := hok mo hmo
        have hst := (hO.1 t ht).1
        have hsf := (hO.1 fr hfr).1
        refine lv_iload_n hx hb d_M_lengthen_24 rfl (lv_at hl 2 rfl) ?_
        refine lv_iload_n hx hb d_M_lengthen_25 rfl (lv_at hl 3 rfl) ?_
        refine wz_ne (tgt := 31) hx hb d_M_lengthen_26 (by decide) (by omega) (by omega) (fun hc3 => ?_) (fun hc3 => ?_)
        · skip
          refine lv_aload_n hx hb d_M_lengthen_31 rfl (lv_at hl 0 rfl) ?_
          refine wz_get (v := .ref (a 1)) (T := T_M) (N := 4) hx hb hts i_M hown hK hP 0 0 rfl rfl rfl 1 (by decide) (hts _ kw_61) rfl rfl d_M_lengthen_32 ?_
          refine lv_iload_n hx hb d_M_lengthen_35 rfl (lv_at hl 1 rfl) ?_
          refine wz_aald hx hb hK hP 0 1 (j := mo) (r := r) rfl rfl (by omega) (by decide) d_M_lengthen_36 ?_
          refine lv_iload_n hx hb d_M_lengthen_37 rfl (lv_at hl 3 rfl) ?_
          refine wz_iald hx hb hK hP 1 mo (j := t) rfl (wz_rows_get (by omega)) (by omega) (by decide) d_M_lengthen_38 ?_
          refine wz_topi (y := nI (sg mo t)) (hO.2.2.2 t ht).1 ?_
          refine lv_iload_n hx hb d_M_lengthen_39 rfl (lv_at hl 3 rfl) ?_
          refine wz_eq (tgt := 45) hx hb d_M_lengthen_40 (by decide) (by omega) (by omega) (fun hc4 => ?_) (fun hc4 => ?_)
          · skip
            refine lv_aload_n hx hb d_M_lengthen_45 rfl (lv_at hl 0 rfl) ?_
            refine wz_get (v := .ref (a 1)) (T := T_M) (N := 4) hx hb hts i_M hown hK hP 0 0 rfl rfl rfl 1 (by decide) (hts _ kw_61) rfl rfl d_M_lengthen_46 ?_
            refine lv_iload_n hx hb d_M_lengthen_49 rfl (lv_at hl 1 rfl) ?_
            refine wz_aald hx hb hK hP 0 1 (j := mo) (r := r) rfl rfl (by omega) (by decide) d_M_lengthen_50 ?_
            refine lv_iload_n hx hb d_M_lengthen_51 rfl (lv_at hl 2 rfl) ?_
            refine wz_iald hx hb hK hP 1 mo (j := fr) rfl (wz_rows_get (by omega)) (by omega) (by decide) d_M_lengthen_52 ?_
            refine wz_topi (y := nI (sg mo fr)) (hO.2.2.2 fr hfr).1 ?_
            refine lv_istore (lv' := [(4, .int (nI (sg mo fr))), (0, .ref (a 0)), (1, .int (nI mo)), (2, .int (nI fr)), (3, .int (nI t))]) hx hb d_M_lengthen_53 hl (by decide) rfl (fun ls hl => ?_)
            refine lv_aload_n hx hb d_M_lengthen_55 rfl (lv_at hl 1 rfl) ?_
            refine lv_iload_n hx hb d_M_lengthen_56 rfl (lv_at hl 2 rfl) ?_
            refine lv_iload_n hx hb d_M_lengthen_57 rfl (lv_at hl 3 rfl) ?_
            refine lv_iload_n hx hb d_M_lengthen_58 rfl (lv_at hl 4 rfl) ?_
            have hQ := wz_split (n := 2) (gc := [mv_W q a n k r f, wz_rows 12 r (fun i9 => .inl (q.1, 8, .inl (M i9)))]) (gr := []) [0, 1] [] rfl (by decide) rfl rfl hP hD
            refine wz_callv (va_runV (As := [.int (nI mo), .int (nI fr), .int (nI t)]) (rest := []) ⟨hx, hb, hml, hown, hts⟩ (c_M_aim l D q a n k r f M mo fr t (by omega) (by omega) (by omega) _) (cwV 3 hts (wz_goodV kw_104 kw_106 kw_0 kw_32 kw_107) rfl rfl rfl (by decide +kernel) ⟨Nat.le_of_ble_eq_true rfl, Nat.le_of_ble_eq_true rfl⟩) (wz_preV (gi := 0) (k := 0) hN hK hQ wz_L_ok rfl rfl rfl) rfl rfl hl.1 rfl (lv_room (Nat.le_of_ble_eq_true rfl)) d_M_lengthen_59 ⟨Nat.le_of_ble_eq_true rfl, Nat.le_of_ble_eq_true rfl⟩) hQ hS hA (fun gx H locs hp hP hD hS => ?_)
            have hp : gx = _ := hp
            subst hp
            obtain ⟨hP, hD⟩ := wz_ord (n := 2) (gs' := [mv_W q a n k r f, wz_rows 12 r (fun i9 => .inl (q.1, 8, .inl ((mv_aim M mo fr t) i9)))]) [0, 1] rfl (by decide) rfl hP hD
            refine lv_aload_n hx hb d_M_lengthen_62 rfl (lv_at hl 1 rfl) ?_
            refine lv_iload_n hx hb d_M_lengthen_63 rfl (lv_at hl 2 rfl) ?_
            refine lv_iload_n hx hb d_M_lengthen_64 rfl (lv_at hl 4 rfl) ?_
            refine lv_iload hx hb d_M_lengthen_65 (lv_at hl 0 rfl) ?_
            have hQ := wz_split (n := 2) (gc := [mv_W q a n k r f, wz_rows 12 r (fun i9 => .inl (q.1, 8, .inl ((mv_aim M mo fr t) i9)))]) (gr := []) [0, 1] [] rfl (by decide) rfl rfl hP hD
            refine wz_callv (va_runV (As := [.int (nI mo), .int (nI t), .int (nI (sg mo fr))]) (rest := []) ⟨hx, hb, hml, hown, hts⟩ (c_M_aim l D q a n k r f (mv_aim M mo fr t) mo t (sg mo fr) (by omega) (by omega) (by omega) _) (cwV 3 hts (wz_goodV kw_104 kw_106 kw_0 kw_32 kw_107) rfl rfl rfl (by decide +kernel) ⟨Nat.le_of_ble_eq_true rfl, Nat.le_of_ble_eq_true rfl⟩) (wz_preV (gi := 0) (k := 0) hN hK hQ wz_L_ok rfl rfl rfl) rfl rfl hl.1 rfl (lv_room (Nat.le_of_ble_eq_true rfl)) d_M_lengthen_67 ⟨Nat.le_of_ble_eq_true rfl, Nat.le_of_ble_eq_true rfl⟩) hQ hS hA (fun gx H locs hp hP hD hS => ?_)
            have hp : gx = _ := hp
            subst hp
            obtain ⟨hP, hD⟩ := wz_ord (n := 2) (gs' := [mv_W q a n k r f, wz_rows 12 r (fun i9 => .inl (q.1, 8, .inl ((mv_aim (mv_aim M mo fr t) mo t (sg mo fr)) i9)))]) [0, 1] rfl (by decide) rfl hP hD
            obtain ⟨o', ho'⟩ := pz_od_ex (pz_cyc_ok hO.1 hfr ht hc3 hc4) hn
            have hok2 := mv_ok_len hk hok hmo hfr ht hc3 hc4 ho'
            have hO2 := hok2 mo hmo
            rw [pz_up_s, pz_up_s, pz_up_s, pk_us] at hO2
            refine lv_aload_n hx hb d_M_lengthen_70 rfl (lv_at hl 1 rfl) ?_
            refine wz_get (v := .ref (a 2)) (T := T_M) (N := 4) hx hb hts i_M hown hK hP 0 0 rfl rfl rfl 2 (by decide) (hts _ kw_62) rfl rfl d_M_lengthen_71 ?_
            refine lv_iload_n hx hb d_M_lengthen_74 rfl (lv_at hl 2 rfl) ?_
            refine lv_aload_n hx hb d_M_lengthen_75 rfl (lv_at hl 1 rfl) ?_
            refine lv_iload_n hx hb d_M_lengthen_76 rfl (lv_at hl 2 rfl) ?_
            have hQ := wz_split (n := 2) (gc := [mv_W q a n k r f, wz_rows 12 r (fun i9 => .inl (q.1, 8, .inl ((mv_aim (mv_aim M mo fr t) mo t (sg mo fr)) i9)))]) (gr := []) [0, 1] [] rfl (by decide) rfl rfl hP hD
            refine wz_calli (va_runV (As := [.int (nI mo)]) (rest := [.int (nI mo), .ref (a 2)]) ⟨hx, hb, hml, hown, hts⟩ (c_M_countOrder l D q a n k r f (mv_aim (mv_aim M mo fr t) mo t (sg mo fr)) mo (pz_cyc (sg mo) fr t) (pz_cyi (sg mo) (tu mo) fr t) hn (by omega) (fun p hp => (hO2.2.2.2 p hp).1) hO2.1 _) (cwV 1 hts (wz_goodV kw_132 kw_134 kw_3 kw_32 kw_135) rfl rfl rfl (by decide +kernel) ⟨Nat.le_of_ble_eq_true rfl, Nat.le_of_ble_eq_true rfl⟩) (wz_preV (gi := 0) (k := 0) hN hK hQ wz_L_ok rfl rfl rfl) rfl rfl hl.1 rfl (lv_room (Nat.le_of_ble_eq_true rfl)) d_M_lengthen_77 ⟨Nat.le_of_ble_eq_true rfl, Nat.le_of_ble_eq_true rfl⟩) hQ hS hA (fun v_77 gx H locs hp hP hD hS => ?_)
            obtain ⟨rfl, o2, rfl, ho2⟩ := hp
            obtain rfl : o2 = o' := pz_od_eq ho2 ho'
            obtain ⟨hP, hD⟩ := wz_ord (n := 2) (gs' := [mv_W q a n k r f, wz_rows 12 r (fun i9 => .inl (q.1, 8, .inl ((mv_aim (mv_aim M mo fr t) mo t (sg mo fr)) i9)))]) [0, 1] rfl (by decide) rfl hP hD
            refine wz_iast (gs' := [mv_W q a n k r (upd f mo (nI o2)), wz_rows 12 r (fun i9 => .inl (q.1, 8, .inl ((mv_aim (mv_aim M mo fr t) mo t (sg mo fr)) i9)))]) hx hb hK hP hD hS 0 2 (j := mo) rfl rfl (by omega) (by decide) d_M_lengthen_80 rfl (fun H locs hP hD hS => ?_)
            refine lv_iconst (v := nI 1) hx hb d_M_lengthen_81 (by decide) ?_
            exact wz_zret hx hb hr hlocks hK hP hD hS d_M_lengthen_82 (by first | exact Or.inl rfl | exact Or.inr rfl) (Or.inr ⟨rfl, mo, fr, t, o2, _, _, ⟨hmo, hfr, ht, rfl, rfl, rfl, hc3, hc4⟩, ho2, rfl, hok2⟩)
          · skip
            refine lv_iconst (v := nI 0) hx hb d_M_lengthen_43 (by decide) ?_
            exact wz_zret hx hb hr hlocks hK hP hD hS d_M_lengthen_44 (by first | exact Or.inl rfl | exact Or.inr rfl) (Or.inl ⟨rfl, rfl, fun ⟨mo', fr', t', q⟩ => by
          obtain rfl := (nI_eq (by have := q.1; omega) (by omega)).mp q.2.2.2.1.symm
          obtain rfl := (nI_eq (by have := q.2.2.1; omega) (by omega)).mp q.2.2.2.2.2.1.symm
          exact hc4 q.2.2.2.2.2.2.2⟩)
        · skip
          refine lv_iconst (v := nI 0) hx hb d_M_lengthen_29 (by decide) ?_
          exact wz_zret hx hb hr hlocks hK hP hD hS d_M_lengthen_30 (by first | exact Or.inl rfl | exact Or.inr rfl) (Or.inl ⟨rfl, rfl, fun ⟨mo', fr', t', q⟩ => by
          obtain rfl := (nI_eq (by have := q.2.1; omega) (by omega)).mp q.2.2.2.2.1.symm
          obtain rfl := (nI_eq (by have := q.2.2.1; omega) (by omega)).mp q.2.2.2.2.2.1.symm
          exact q.2.2.2.2.2.2.1 hc3⟩)
end
section
/-! MODULE Graph -/
def gq_W (q : wz_Q) (a : Nat → Nat) (mr : Nat) (cap : Nat) (sb : Nat) (hs : Nat) (rl : Nat → Nat) (st : Nat → Int32) (sl : Nat → Int32) (cn : Nat) : va_W := [(a 0, .inr (1, [.ref mr, .ref (a 1), .ref (a 2), .int (nI hs), .ref (a 3), .int (nI cn)])), (a 1, .inl (q.1, cap, .inl st)), (a 2, .inl (q.1, sb, .inl sl)), (a 3, .inl (q.2.2, wz_out 12 rl))]
theorem gq_lset1 {L1 : Nat → Nat → Int32} {i u g : Nat} (h : u < i ∨ (6 ≤ u ∧ u < 6 + i) → L1 u g = -1) (hu : u < i + 1 ∨ (6 ≤ u ∧ u < 6 + (i + 1))) : pz_up (pz_up L1 i (upd (L1 i) g (-1))) (i + 6) (upd (pz_up L1 i (upd (L1 i) g (-1)) (i + 6)) g (-1)) u g = -1 := by
  by_cases e : u = i + 6
  · subst e; rw [pz_up_s, pk_us]
  · rw [pz_up_n _ _ e]
    by_cases e2 : u = i
    · subst e2; rw [pz_up_s, pk_us]
    · rw [pz_up_n _ _ e2]; exact h (by omega)
theorem gq_lset2 {L1 : Nat → Nat → Int32} {i g y : Nat} (u : Nat) (h : y ≠ g) : pz_up (pz_up L1 i (upd (L1 i) g (-1))) (i + 6) (upd (pz_up L1 i (upd (L1 i) g (-1)) (i + 6)) g (-1)) u y = L1 u y := by
  by_cases e : u = i + 6
  · subst e; rw [pz_up_s, pk_un h]
    by_cases e2 : i + 6 = i
    · omega
    · rw [pz_up_n _ _ e2]
  · rw [pz_up_n _ _ e]
    by_cases e2 : u = i
    · subst e2; rw [pz_up_s, pk_un h]
    · rw [pz_up_n _ _ e2]
theorem gq_dec (i : Nat) : nI (i + 1) - nI 1 + Int32.ofInt (-1) = nI i - nI 1 := by
  rw [pk_sub (by omega), Int32.sub_eq_add_neg]
  rfl
theorem d_G_slotOf_0 : decode b_G_slotOf 0 = .ok (.iload_n 1, 1) := by decide +kernel
theorem d_G_slotOf_1 : decode b_G_slotOf 1 = .ok (.ldc 48, 2) := by decide +kernel
theorem d_G_slotOf_3 : decode b_G_slotOf 3 = .ok (.imul, 1) := by decide +kernel
theorem d_G_slotOf_4 : decode b_G_slotOf 4 = .ok (.aload_n 0, 1) := by decide +kernel
theorem d_G_slotOf_5 : decode b_G_slotOf 5 = .ok (.getfield 27, 3) := by decide +kernel
theorem d_G_slotOf_8 : decode b_G_slotOf 8 = .ok (.iushr, 1) := by decide +kernel
theorem d_G_slotOf_9 : decode b_G_slotOf 9 = .ok (.istore_n 2, 1) := by decide +kernel
theorem d_G_slotOf_10 : decode b_G_slotOf 10 = .ok (.iconst 0, 1) := by decide +kernel
theorem d_G_slotOf_11 : decode b_G_slotOf 11 = .ok (.istore_n 3, 1) := by decide +kernel
theorem d_G_slotOf_12 : decode b_G_slotOf 12 = .ok (.iload_n 3, 1) := by decide +kernel
theorem d_G_slotOf_13 : decode b_G_slotOf 13 = .ok (.aload_n 0, 1) := by decide +kernel
theorem d_G_slotOf_14 : decode b_G_slotOf 14 = .ok (.getfield 24, 3) := by decide +kernel
theorem d_G_slotOf_17 : decode b_G_slotOf 17 = .ok (.arraylength, 1) := by decide +kernel
theorem d_G_slotOf_18 : decode b_G_slotOf 18 = .ok (.if_icmp .ge 49, 3) := by decide +kernel
theorem d_G_slotOf_21 : decode b_G_slotOf 21 = .ok (.aload_n 0, 1) := by decide +kernel
theorem d_G_slotOf_22 : decode b_G_slotOf 22 = .ok (.getfield 24, 3) := by decide +kernel
theorem d_G_slotOf_25 : decode b_G_slotOf 25 = .ok (.iload_n 2, 1) := by decide +kernel
theorem d_G_slotOf_26 : decode b_G_slotOf 26 = .ok (.iaload, 1) := by decide +kernel
theorem d_G_slotOf_27 : decode b_G_slotOf 27 = .ok (.istore 4, 2) := by decide +kernel
theorem d_G_slotOf_29 : decode b_G_slotOf 29 = .ok (.iload 4, 2) := by decide +kernel
theorem d_G_slotOf_31 : decode b_G_slotOf 31 = .ok (.ifCond .eq 16, 3) := by decide +kernel
theorem d_G_slotOf_34 : decode b_G_slotOf 34 = .ok (.aload_n 0, 1) := by decide +kernel
theorem d_G_slotOf_35 : decode b_G_slotOf 35 = .ok (.getfield 15, 3) := by decide +kernel
theorem d_G_slotOf_38 : decode b_G_slotOf 38 = .ok (.iload 4, 2) := by decide +kernel
theorem d_G_slotOf_40 : decode b_G_slotOf 40 = .ok (.iconst 1, 1) := by decide +kernel
theorem d_G_slotOf_41 : decode b_G_slotOf 41 = .ok (.isub, 1) := by decide +kernel
theorem d_G_slotOf_42 : decode b_G_slotOf 42 = .ok (.iaload, 1) := by decide +kernel
theorem d_G_slotOf_43 : decode b_G_slotOf 43 = .ok (.iload_n 1, 1) := by decide +kernel
theorem d_G_slotOf_44 : decode b_G_slotOf 44 = .ok (.if_icmp .ne 5, 3) := by decide +kernel
theorem d_G_slotOf_47 : decode b_G_slotOf 47 = .ok (.iload_n 2, 1) := by decide +kernel
theorem d_G_slotOf_48 : decode b_G_slotOf 48 = .ok (.ireturn, 1) := by decide +kernel
theorem d_G_slotOf_49 : decode b_G_slotOf 49 = .ok (.iload_n 2, 1) := by decide +kernel
theorem d_G_slotOf_50 : decode b_G_slotOf 50 = .ok (.iconst 1, 1) := by decide +kernel
theorem d_G_slotOf_51 : decode b_G_slotOf 51 = .ok (.iadd, 1) := by decide +kernel
theorem d_G_slotOf_52 : decode b_G_slotOf 52 = .ok (.aload_n 0, 1) := by decide +kernel
theorem d_G_slotOf_53 : decode b_G_slotOf 53 = .ok (.getfield 24, 3) := by decide +kernel
theorem d_G_slotOf_56 : decode b_G_slotOf 56 = .ok (.arraylength, 1) := by decide +kernel
theorem d_G_slotOf_57 : decode b_G_slotOf 57 = .ok (.iconst 1, 1) := by decide +kernel
theorem d_G_slotOf_58 : decode b_G_slotOf 58 = .ok (.isub, 1) := by decide +kernel
theorem d_G_slotOf_59 : decode b_G_slotOf 59 = .ok (.iand, 1) := by decide +kernel
theorem d_G_slotOf_60 : decode b_G_slotOf 60 = .ok (.istore_n 2, 1) := by decide +kernel
theorem d_G_slotOf_61 : decode b_G_slotOf 61 = .ok (.iinc 3 1, 3) := by decide +kernel
theorem d_G_slotOf_64 : decode b_G_slotOf 64 = .ok (.goto (-52), 3) := by decide +kernel
theorem d_G_slotOf_67 : decode b_G_slotOf 67 = .ok (.iload_n 2, 1) := by decide +kernel
theorem d_G_slotOf_68 : decode b_G_slotOf 68 = .ok (.ireturn, 1) := by decide +kernel
theorem d_G_enter_0 : decode b_G_enter 0 = .ok (.aload_n 0, 1) := by decide +kernel
theorem d_G_enter_1 : decode b_G_enter 1 = .ok (.iload_n 1, 1) := by decide +kernel
theorem d_G_enter_2 : decode b_G_enter 2 = .ok (.invokevirtual 34, 3) := by decide +kernel
theorem d_G_enter_5 : decode b_G_enter 5 = .ok (.istore_n 2, 1) := by decide +kernel
theorem d_G_enter_6 : decode b_G_enter 6 = .ok (.aload_n 0, 1) := by decide +kernel
theorem d_G_enter_7 : decode b_G_enter 7 = .ok (.getfield 24, 3) := by decide +kernel
theorem d_G_enter_10 : decode b_G_enter 10 = .ok (.iload_n 2, 1) := by decide +kernel
theorem d_G_enter_11 : decode b_G_enter 11 = .ok (.iaload, 1) := by decide +kernel
theorem d_G_enter_12 : decode b_G_enter 12 = .ok (.ifCond .eq 12, 3) := by decide +kernel
theorem d_G_enter_15 : decode b_G_enter 15 = .ok (.aload_n 0, 1) := by decide +kernel
theorem d_G_enter_16 : decode b_G_enter 16 = .ok (.getfield 24, 3) := by decide +kernel
theorem d_G_enter_19 : decode b_G_enter 19 = .ok (.iload_n 2, 1) := by decide +kernel
theorem d_G_enter_20 : decode b_G_enter 20 = .ok (.iaload, 1) := by decide +kernel
theorem d_G_enter_21 : decode b_G_enter 21 = .ok (.iconst 1, 1) := by decide +kernel
theorem d_G_enter_22 : decode b_G_enter 22 = .ok (.isub, 1) := by decide +kernel
theorem d_G_enter_23 : decode b_G_enter 23 = .ok (.ireturn, 1) := by decide +kernel
theorem d_G_enter_24 : decode b_G_enter 24 = .ok (.aload_n 0, 1) := by decide +kernel
theorem d_G_enter_25 : decode b_G_enter 25 = .ok (.getfield 31, 3) := by decide +kernel
theorem d_G_enter_28 : decode b_G_enter 28 = .ok (.aload_n 0, 1) := by decide +kernel
theorem d_G_enter_29 : decode b_G_enter 29 = .ok (.getfield 15, 3) := by decide +kernel
theorem d_G_enter_32 : decode b_G_enter 32 = .ok (.arraylength, 1) := by decide +kernel
theorem d_G_enter_33 : decode b_G_enter 33 = .ok (.if_icmp .lt 5, 3) := by decide +kernel
theorem d_G_enter_36 : decode b_G_enter 36 = .ok (.iconst 0, 1) := by decide +kernel
theorem d_G_enter_37 : decode b_G_enter 37 = .ok (.ireturn, 1) := by decide +kernel
theorem d_G_enter_38 : decode b_G_enter 38 = .ok (.aload_n 0, 1) := by decide +kernel
theorem d_G_enter_39 : decode b_G_enter 39 = .ok (.getfield 15, 3) := by decide +kernel
theorem d_G_enter_42 : decode b_G_enter 42 = .ok (.aload_n 0, 1) := by decide +kernel
theorem d_G_enter_43 : decode b_G_enter 43 = .ok (.getfield 31, 3) := by decide +kernel
theorem d_G_enter_46 : decode b_G_enter 46 = .ok (.iload_n 1, 1) := by decide +kernel
theorem d_G_enter_47 : decode b_G_enter 47 = .ok (.iastore, 1) := by decide +kernel
theorem d_G_enter_48 : decode b_G_enter 48 = .ok (.iconst 0, 1) := by decide +kernel
theorem d_G_enter_49 : decode b_G_enter 49 = .ok (.istore_n 3, 1) := by decide +kernel
theorem d_G_enter_50 : decode b_G_enter 50 = .ok (.iload_n 3, 1) := by decide +kernel
theorem d_G_enter_51 : decode b_G_enter 51 = .ok (.aload_n 0, 1) := by decide +kernel
theorem d_G_enter_52 : decode b_G_enter 52 = .ok (.getfield 9, 3) := by decide +kernel
theorem d_G_enter_55 : decode b_G_enter 55 = .ok (.getfield 38, 3) := by decide +kernel
theorem d_G_enter_58 : decode b_G_enter 58 = .ok (.if_icmp .ge 36, 3) := by decide +kernel
theorem d_G_enter_61 : decode b_G_enter 61 = .ok (.aload_n 0, 1) := by decide +kernel
theorem d_G_enter_62 : decode b_G_enter 62 = .ok (.getfield 21, 3) := by decide +kernel
theorem d_G_enter_65 : decode b_G_enter 65 = .ok (.iload_n 3, 1) := by decide +kernel
theorem d_G_enter_66 : decode b_G_enter 66 = .ok (.aaload, 1) := by decide +kernel
theorem d_G_enter_67 : decode b_G_enter 67 = .ok (.aload_n 0, 1) := by decide +kernel
theorem d_G_enter_68 : decode b_G_enter 68 = .ok (.getfield 31, 3) := by decide +kernel
theorem d_G_enter_71 : decode b_G_enter 71 = .ok (.iconst (-1), 1) := by decide +kernel
theorem d_G_enter_72 : decode b_G_enter 72 = .ok (.iastore, 1) := by decide +kernel
theorem d_G_enter_73 : decode b_G_enter 73 = .ok (.aload_n 0, 1) := by decide +kernel
theorem d_G_enter_74 : decode b_G_enter 74 = .ok (.getfield 21, 3) := by decide +kernel
theorem d_G_enter_77 : decode b_G_enter 77 = .ok (.iload_n 3, 1) := by decide +kernel
theorem d_G_enter_78 : decode b_G_enter 78 = .ok (.bipush 6, 2) := by decide +kernel
theorem d_G_enter_80 : decode b_G_enter 80 = .ok (.iadd, 1) := by decide +kernel
theorem d_G_enter_81 : decode b_G_enter 81 = .ok (.aaload, 1) := by decide +kernel
theorem d_G_enter_82 : decode b_G_enter 82 = .ok (.aload_n 0, 1) := by decide +kernel
theorem d_G_enter_83 : decode b_G_enter 83 = .ok (.getfield 31, 3) := by decide +kernel
theorem d_G_enter_86 : decode b_G_enter 86 = .ok (.iconst (-1), 1) := by decide +kernel
theorem d_G_enter_87 : decode b_G_enter 87 = .ok (.iastore, 1) := by decide +kernel
theorem d_G_enter_88 : decode b_G_enter 88 = .ok (.iinc 3 1, 3) := by decide +kernel
theorem d_G_enter_91 : decode b_G_enter 91 = .ok (.goto (-41), 3) := by decide +kernel
theorem d_G_enter_94 : decode b_G_enter 94 = .ok (.aload_n 0, 1) := by decide +kernel
theorem d_G_enter_95 : decode b_G_enter 95 = .ok (.dup, 1) := by decide +kernel
theorem d_G_enter_96 : decode b_G_enter 96 = .ok (.getfield 31, 3) := by decide +kernel
theorem d_G_enter_99 : decode b_G_enter 99 = .ok (.iconst 1, 1) := by decide +kernel
theorem d_G_enter_100 : decode b_G_enter 100 = .ok (.iadd, 1) := by decide +kernel
theorem d_G_enter_101 : decode b_G_enter 101 = .ok (.putfield 31, 3) := by decide +kernel
theorem d_G_enter_104 : decode b_G_enter 104 = .ok (.aload_n 0, 1) := by decide +kernel
theorem d_G_enter_105 : decode b_G_enter 105 = .ok (.getfield 24, 3) := by decide +kernel
theorem d_G_enter_108 : decode b_G_enter 108 = .ok (.iload_n 2, 1) := by decide +kernel
theorem d_G_enter_109 : decode b_G_enter 109 = .ok (.aload_n 0, 1) := by decide +kernel
theorem d_G_enter_110 : decode b_G_enter 110 = .ok (.getfield 31, 3) := by decide +kernel
theorem d_G_enter_113 : decode b_G_enter 113 = .ok (.iastore, 1) := by decide +kernel
theorem d_G_enter_114 : decode b_G_enter 114 = .ok (.aload_n 0, 1) := by decide +kernel
theorem d_G_enter_115 : decode b_G_enter 115 = .ok (.getfield 31, 3) := by decide +kernel
theorem d_G_enter_118 : decode b_G_enter 118 = .ok (.iconst 1, 1) := by decide +kernel
theorem d_G_enter_119 : decode b_G_enter 119 = .ok (.isub, 1) := by decide +kernel
theorem d_G_enter_120 : decode b_G_enter 120 = .ok (.ireturn, 1) := by decide +kernel
theorem d_G_follow_0 : decode b_G_follow 0 = .ok (.aload_n 0, 1) := by decide +kernel
theorem d_G_follow_1 : decode b_G_follow 1 = .ok (.getfield 21, 3) := by decide +kernel
theorem d_G_follow_4 : decode b_G_follow 4 = .ok (.iload_n 1, 1) := by decide +kernel
theorem d_G_follow_5 : decode b_G_follow 5 = .ok (.aaload, 1) := by decide +kernel
theorem d_G_follow_6 : decode b_G_follow 6 = .ok (.iload_n 2, 1) := by decide +kernel
theorem d_G_follow_7 : decode b_G_follow 7 = .ok (.iaload, 1) := by decide +kernel
theorem d_G_follow_8 : decode b_G_follow 8 = .ok (.istore_n 3, 1) := by decide +kernel
theorem d_G_follow_9 : decode b_G_follow 9 = .ok (.iload_n 3, 1) := by decide +kernel
theorem d_G_follow_10 : decode b_G_follow 10 = .ok (.iconst (-1), 1) := by decide +kernel
theorem d_G_follow_11 : decode b_G_follow 11 = .ok (.if_icmp .eq 5, 3) := by decide +kernel
theorem d_G_follow_14 : decode b_G_follow 14 = .ok (.iload_n 3, 1) := by decide +kernel
theorem d_G_follow_15 : decode b_G_follow 15 = .ok (.ireturn, 1) := by decide +kernel
theorem d_G_follow_16 : decode b_G_follow 16 = .ok (.aload_n 0, 1) := by decide +kernel
theorem d_G_follow_17 : decode b_G_follow 17 = .ok (.aload_n 0, 1) := by decide +kernel
theorem d_G_follow_18 : decode b_G_follow 18 = .ok (.getfield 9, 3) := by decide +kernel
theorem d_G_follow_21 : decode b_G_follow 21 = .ok (.iload_n 1, 1) := by decide +kernel
theorem d_G_follow_22 : decode b_G_follow 22 = .ok (.aload_n 0, 1) := by decide +kernel
theorem d_G_follow_23 : decode b_G_follow 23 = .ok (.getfield 15, 3) := by decide +kernel
theorem d_G_follow_26 : decode b_G_follow 26 = .ok (.iload_n 2, 1) := by decide +kernel
theorem d_G_follow_27 : decode b_G_follow 27 = .ok (.iaload, 1) := by decide +kernel
theorem d_G_follow_28 : decode b_G_follow 28 = .ok (.invokevirtual 41, 3) := by decide +kernel
theorem d_G_follow_31 : decode b_G_follow 31 = .ok (.invokevirtual 45, 3) := by decide +kernel
theorem d_G_follow_34 : decode b_G_follow 34 = .ok (.istore 4, 2) := by decide +kernel
theorem d_G_follow_36 : decode b_G_follow 36 = .ok (.iload_n 1, 1) := by decide +kernel
theorem d_G_follow_37 : decode b_G_follow 37 = .ok (.bipush 6, 2) := by decide +kernel
theorem d_G_follow_39 : decode b_G_follow 39 = .ok (.if_icmp .ge 10, 3) := by decide +kernel
theorem d_G_follow_42 : decode b_G_follow 42 = .ok (.iload_n 1, 1) := by decide +kernel
theorem d_G_follow_43 : decode b_G_follow 43 = .ok (.bipush 6, 2) := by decide +kernel
theorem d_G_follow_45 : decode b_G_follow 45 = .ok (.iadd, 1) := by decide +kernel
theorem d_G_follow_46 : decode b_G_follow 46 = .ok (.goto 7, 3) := by decide +kernel
theorem d_G_follow_49 : decode b_G_follow 49 = .ok (.iload_n 1, 1) := by decide +kernel
theorem d_G_follow_50 : decode b_G_follow 50 = .ok (.bipush 6, 2) := by decide +kernel
theorem d_G_follow_52 : decode b_G_follow 52 = .ok (.isub, 1) := by decide +kernel
theorem d_G_follow_53 : decode b_G_follow 53 = .ok (.istore 5, 2) := by decide +kernel
theorem d_G_follow_55 : decode b_G_follow 55 = .ok (.aload_n 0, 1) := by decide +kernel
theorem d_G_follow_56 : decode b_G_follow 56 = .ok (.getfield 21, 3) := by decide +kernel
theorem d_G_follow_59 : decode b_G_follow 59 = .ok (.iload_n 1, 1) := by decide +kernel
theorem d_G_follow_60 : decode b_G_follow 60 = .ok (.aaload, 1) := by decide +kernel
theorem d_G_follow_61 : decode b_G_follow 61 = .ok (.iload_n 2, 1) := by decide +kernel
theorem d_G_follow_62 : decode b_G_follow 62 = .ok (.iload 4, 2) := by decide +kernel
theorem d_G_follow_64 : decode b_G_follow 64 = .ok (.iastore, 1) := by decide +kernel
theorem d_G_follow_65 : decode b_G_follow 65 = .ok (.aload_n 0, 1) := by decide +kernel
theorem d_G_follow_66 : decode b_G_follow 66 = .ok (.getfield 21, 3) := by decide +kernel
theorem d_G_follow_69 : decode b_G_follow 69 = .ok (.iload 5, 2) := by decide +kernel
theorem d_G_follow_71 : decode b_G_follow 71 = .ok (.aaload, 1) := by decide +kernel
theorem d_G_follow_72 : decode b_G_follow 72 = .ok (.iload 4, 2) := by decide +kernel
theorem d_G_follow_74 : decode b_G_follow 74 = .ok (.iload_n 2, 1) := by decide +kernel
theorem d_G_follow_75 : decode b_G_follow 75 = .ok (.iastore, 1) := by decide +kernel
theorem d_G_follow_76 : decode b_G_follow 76 = .ok (.iload 4, 2) := by decide +kernel
theorem d_G_follow_78 : decode b_G_follow 78 = .ok (.ireturn, 1) := by decide +kernel
theorem d_G_dropAll_0 : decode b_G_dropAll 0 = .ok (.aload_n 0, 1) := by decide +kernel
theorem d_G_dropAll_1 : decode b_G_dropAll 1 = .ok (.getfield 31, 3) := by decide +kernel
theorem d_G_dropAll_4 : decode b_G_dropAll 4 = .ok (.iconst 1, 1) := by decide +kernel
theorem d_G_dropAll_5 : decode b_G_dropAll 5 = .ok (.isub, 1) := by decide +kernel
theorem d_G_dropAll_6 : decode b_G_dropAll 6 = .ok (.istore_n 1, 1) := by decide +kernel
theorem d_G_dropAll_7 : decode b_G_dropAll 7 = .ok (.iload_n 1, 1) := by decide +kernel
theorem d_G_dropAll_8 : decode b_G_dropAll 8 = .ok (.ifCond .lt 25, 3) := by decide +kernel
theorem d_G_dropAll_11 : decode b_G_dropAll 11 = .ok (.aload_n 0, 1) := by decide +kernel
theorem d_G_dropAll_12 : decode b_G_dropAll 12 = .ok (.getfield 24, 3) := by decide +kernel
theorem d_G_dropAll_15 : decode b_G_dropAll 15 = .ok (.aload_n 0, 1) := by decide +kernel
theorem d_G_dropAll_16 : decode b_G_dropAll 16 = .ok (.aload_n 0, 1) := by decide +kernel
theorem d_G_dropAll_17 : decode b_G_dropAll 17 = .ok (.getfield 15, 3) := by decide +kernel
theorem d_G_dropAll_20 : decode b_G_dropAll 20 = .ok (.iload_n 1, 1) := by decide +kernel
theorem d_G_dropAll_21 : decode b_G_dropAll 21 = .ok (.iaload, 1) := by decide +kernel
theorem d_G_dropAll_22 : decode b_G_dropAll 22 = .ok (.invokevirtual 34, 3) := by decide +kernel
theorem d_G_dropAll_25 : decode b_G_dropAll 25 = .ok (.iconst 0, 1) := by decide +kernel
theorem d_G_dropAll_26 : decode b_G_dropAll 26 = .ok (.iastore, 1) := by decide +kernel
theorem d_G_dropAll_27 : decode b_G_dropAll 27 = .ok (.iinc 1 (-1), 3) := by decide +kernel
theorem d_G_dropAll_30 : decode b_G_dropAll 30 = .ok (.goto (-23), 3) := by decide +kernel
theorem d_G_dropAll_33 : decode b_G_dropAll 33 = .ok (.aload_n 0, 1) := by decide +kernel
theorem d_G_dropAll_34 : decode b_G_dropAll 34 = .ok (.iconst 0, 1) := by decide +kernel
theorem d_G_dropAll_35 : decode b_G_dropAll 35 = .ok (.putfield 31, 3) := by decide +kernel
theorem d_G_dropAll_38 : decode b_G_dropAll 38 = .ok (.return_, 1) := by decide +kernel
theorem kw_6 : (Cond.selects "TwoEndSearch$Graph" ⟨"TwoEndSearch$Graph", "slotOf", "(I)I"⟩ ⟨"TwoEndSearch$Graph", "slotOf", "(I)I"⟩ : Cond) ∈ bigW := bigW_of 6 (by decide +kernel) (by decide +kernel)
theorem kw_35 : (Cond.initialized "TwoEndSearch$Graph" : Cond) ∈ bigW := bigW_of 35 (by decide +kernel) (by decide +kernel)
theorem kw_188 : (Cond.fieldLink "TwoEndSearch$Graph" 9 "TwoEndSearch$Graph" "moves" "LTwoEndSearch$Moves;" : Cond) ∈ bigW := bigW_of 188 (by decide +kernel) (by decide +kernel)
theorem kw_190 : (Cond.fieldLink "TwoEndSearch$Graph" 15 "TwoEndSearch$Graph" "states" "[I" : Cond) ∈ bigW := bigW_of 190 (by decide +kernel) (by decide +kernel)
theorem kw_191 : (Cond.fieldLink "TwoEndSearch$Graph" 24 "TwoEndSearch$Graph" "slots" "[I" : Cond) ∈ bigW := bigW_of 191 (by decide +kernel) (by decide +kernel)
theorem kw_192 : (Cond.fieldLink "TwoEndSearch$Graph" 27 "TwoEndSearch$Graph" "hashShift" "I" : Cond) ∈ bigW := bigW_of 192 (by decide +kernel) (by decide +kernel)
theorem kw_193 : (Cond.fieldLink "TwoEndSearch$Graph" 21 "TwoEndSearch$Graph" "links" "[[I" : Cond) ∈ bigW := bigW_of 193 (by decide +kernel) (by decide +kernel)
theorem kw_194 : (Cond.fieldLink "TwoEndSearch$Graph" 31 "TwoEndSearch$Graph" "count" "I" : Cond) ∈ bigW := bigW_of 194 (by decide +kernel) (by decide +kernel)
theorem kw_310 : (Cond.methodLink "TwoEndSearch$Graph" 34 ⟨"TwoEndSearch$Graph", "slotOf", "(I)I"⟩ : Cond) ∈ bigW := bigW_of 310 (by decide +kernel) (by decide +kernel)
theorem kw_312 : (Cond.instanceMethod ⟨"TwoEndSearch$Graph", "slotOf", "(I)I"⟩ : Cond) ∈ bigW := bigW_of 312 (by decide +kernel) (by decide +kernel)
theorem kw_313 : (Cond.code ⟨"TwoEndSearch$Graph", "slotOf", "(I)I"⟩ prog_3_method_5_code 5 (some .int) : Cond) ∈ bigW := bigW_of 313 (by decide +kernel) (by decide +kernel)
theorem kw_314 : (Cond.constant "TwoEndSearch$Graph" 48 (-1640531535) : Cond) ∈ bigW := bigW_of 314 (by decide +kernel) (by decide +kernel)
theorem kw_316 : (Cond.instanceMethod ⟨"TwoEndSearch$Graph", "enter", "(I)I"⟩ : Cond) ∈ bigW := bigW_of 316 (by decide +kernel) (by decide +kernel)
theorem kw_317 : (Cond.selects "TwoEndSearch$Graph" ⟨"TwoEndSearch$Graph", "enter", "(I)I"⟩ ⟨"TwoEndSearch$Graph", "enter", "(I)I"⟩ : Cond) ∈ bigW := bigW_of 317 (by decide +kernel) (by decide +kernel)
theorem kw_318 : (Cond.code ⟨"TwoEndSearch$Graph", "enter", "(I)I"⟩ prog_3_method_3_code 4 (some .int) : Cond) ∈ bigW := bigW_of 318 (by decide +kernel) (by decide +kernel)
theorem kw_367 : (Cond.methodLink "TwoEndSearch$Graph" 41 ⟨"TwoEndSearch$Moves", "bring", "(II)I"⟩ : Cond) ∈ bigW := bigW_of 367 (by decide +kernel) (by decide +kernel)
theorem kw_368 : (Cond.methodLink "TwoEndSearch$Graph" 45 ⟨"TwoEndSearch$Graph", "enter", "(I)I"⟩ : Cond) ∈ bigW := bigW_of 368 (by decide +kernel) (by decide +kernel)
def po_G_slotOf (q : wz_Q) (ag : Nat → Nat) (mr n b cn : Nat) (rl : Nat → Nat) (st sl : Nat → Int32) (G : List Nat) (sf : Nat → Nat) (cd : Nat) : Int32 → wz_G → Prop := fun v w => w = [gq_W q ag mr (pz_fact n) (2 ^ b) (32 - b) rl st sl cn] ∧ ∃ j, j < 2 ^ b ∧ v = nI ((gq_hh b cd + j) % 2 ^ b) ∧ pz_stop (2 ^ b) (gq_hh b) G sf cd j ∧ ∀ i, i < j → ¬ pz_stop (2 ^ b) (gq_hh b) G sf cd i
set_option maxHeartbeats 4000000 in
set_option maxRecDepth 100000 in
/-- the slot that has a state, or the free one that it would get -/
theorem c_G_slotOf (l : Launch) (D : va_G) (q : wz_Q) (ag : Nat → Nat) (mr n b cn : Nat) (rl : Nat → Nat) (st sl : Nat → Int32) (G : List Nat) (sf : Nat → Nat) (cd : Nat) (hn : n ≤ 8) (hb0 : 0 < b) (hb30 : b ≤ 30) (hM : pz_fact n < 2 ^ b) (hst : ∀ i x, G[i]? = some x → st i = nI x) (hsl : ∀ j, j < 2 ^ b → sl j = nI (sf j)) (ht : pz_ht (2 ^ b) (gq_hh b) G sf) (hG : G.length ≤ pz_fact n) (hcd : cd < 2 ^ 24) (hx24 : ∀ x, x ∈ G → x < 2 ^ 24) : wz_Mi l y_G_slotOf ws_G_slotOf ({ frames := 0, cells := 0, slots := 0, locals := 0 } : Room) D q ([.ref (ag 0), .int (nI cd)] : List Value) [gq_W q ag mr (pz_fact n) (2 ^ b) (32 - b) rl st sl cn] (po_G_slotOf q ag mr n b cn rl st sl G sf cd) 0 0 := by
  intro sz9
  refine wz_enter (cc := b_G_slotOf) (maxL := 5) (ret := (some .int)) (Qc := fun A => (va_Qi (po_G_slotOf q ag mr n b cn rl st sl G sf cd) (wz_At D q A) A)) (by decide) (Nat.le_of_ble_eq_true rfl) ?_
  intro p e s m below meth c A ls C hP hD hS hl
  obtain ⟨hx, hb, hr, hml, hlocks, hown, hts, hN, hK, hA, hnm⟩ := C
  have hown : s.vm.findClass "TwoEndSearch$Graph" = some m.cls := hown
  have hl : lv_has ls 5 [(0, .ref (ag 0)), (1, .int (nI cd))] := hl
  have hp31 := gq_p31 hb30
  have hfl := pz_fact_le hn
  have hp0 : 0 < 2 ^ b := Nat.pow_pos (by decide)
  refine lv_iload_n hx hb d_G_slotOf_0 rfl (lv_at hl 1 rfl) ?_
  refine lv_ldc (v := (-1640531535)) hx hb hown (hts _ kw_314) d_G_slotOf_1 ?_
  refine lv_imul hx hb d_G_slotOf_3 ?_
  refine lv_aload_n hx hb d_G_slotOf_4 rfl (lv_at hl 0 rfl) ?_
  refine wz_get (v := .int (nI (32 - b))) (T := T_G) (N := 6) hx hb hts i_G hown hK hP 0 0 rfl rfl rfl 3 (by decide) (hts _ kw_192) rfl rfl d_G_slotOf_5 ?_
  refine lv_iushr (v := nI ((gq_hh b cd + 0) % 2 ^ b)) hx hb d_G_slotOf_8 (gq_hash hb0 hb30) ?_
  refine lv_istore_n (lv' := [(2, .int (nI ((gq_hh b cd + 0) % 2 ^ b))), (0, .ref (ag 0)), (1, .int (nI cd))]) hx hb d_G_slotOf_9 rfl hl (by decide) rfl (fun ls hl => ?_)
  refine lv_iconst (v := nI 0) hx hb d_G_slotOf_10 (by decide) ?_
  refine lv_istore_n (lv' := [(3, .int (nI 0)), (2, .int (nI ((gq_hh b cd + 0) % 2 ^ b))), (0, .ref (ag 0)), (1, .int (nI cd))]) hx hb d_G_slotOf_11 rfl hl (by decide) rfl (fun ls hl => ?_)
  have loop : ∀ (d : Nat) (j : Nat), j ≤ 2 ^ b → 2 ^ b + 1 ≤ j + d → (∀ i, i < j → ¬ pz_stop (2 ^ b) (gq_hh b) G sf cd i) → ∀ (H : Heap) (locs : List Loc) (ls : Array Slot), va_P D vwCl ([gq_W q ag mr (pz_fact n) (2 ^ b) (32 - b) rl st sl cn] : wz_G).flatten H → va_D A ([gq_W q ag mr (pz_fact n) (2 ^ b) (32 - b) rl st sl cn] : wz_G).flatten → va_S A s.heap H locs → lv_has ls 5 [(0, .ref (ag 0)), (1, .int (nI cd)), (2, .int (nI ((gq_hh b cd + j) % 2 ^ b))), (3, .int (nI j))] → W p l e ({ frames := 0, cells := 0, slots := 0, locals := 0 } : Room) s m ([.ref (ag 0), .int (nI cd)] : List Value).toArray below meth c H locs 0 0 (MQ below (va_Qi (po_G_slotOf q ag mr n b cn rl st sl G sf cd) (wz_At D q A) A) ([.ref (ag 0), .int (nI cd)] : List Value).toArray s 0 0 A) (F0 m 12 ls []) := by
    intro d
    induction d with
    | zero =>
      intro j hj hd hno
      omega
    | succ d ih =>
      intro j hj hd hno H locs ls hP hD hS hl
      refine lv_iload_n hx hb d_G_slotOf_12 rfl (lv_at hl 3 rfl) ?_
      refine lv_aload_n hx hb d_G_slotOf_13 rfl (lv_at hl 0 rfl) ?_
      refine wz_get (v := .ref (ag 2)) (T := T_G) (N := 6) hx hb hts i_G hown hK hP 0 0 rfl rfl rfl 2 (by decide) (hts _ kw_191) rfl rfl d_G_slotOf_14 ?_
      refine wz_alen hx hb hK hP 0 2 (n := 2 ^ b) rfl rfl d_G_slotOf_17 ?_
      refine wz_ge (tgt := 67) hx hb d_G_slotOf_18 (by decide) (by omega) (by omega) (fun hc => ?_) (fun hc => ?_)
      · skip
        obtain ⟨i, h1, h2⟩ := pz_ht_stop ht (by omega) (gq_hh_lt hb30) (x := cd)
        exact absurd h2 (hno i (by omega))
      · skip
        have hk : ((gq_hh b cd + j) % 2 ^ b) < 2 ^ b := Nat.mod_lt _ hp0
        have hv : sf ((gq_hh b cd + j) % 2 ^ b) ≤ G.length := by
          by_cases e0 : sf ((gq_hh b cd + j) % 2 ^ b) = 0
          · omega
          · obtain ⟨x, hx⟩ := ht.1 _ hk e0
            have := (List.getElem?_eq_some_iff.mp hx).1
            omega
        refine lv_aload_n hx hb d_G_slotOf_21 rfl (lv_at hl 0 rfl) ?_
        refine wz_get (v := .ref (ag 2)) (T := T_G) (N := 6) hx hb hts i_G hown hK hP 0 0 rfl rfl rfl 2 (by decide) (hts _ kw_191) rfl rfl d_G_slotOf_22 ?_
        refine lv_iload_n hx hb d_G_slotOf_25 rfl (lv_at hl 2 rfl) ?_
        refine wz_iald hx hb hK hP 0 2 (j := ((gq_hh b cd + j) % 2 ^ b)) rfl rfl (by omega) (by omega) d_G_slotOf_26 ?_
        refine wz_topi (y := nI (sf ((gq_hh b cd + j) % 2 ^ b))) (hsl _ hk) ?_
        refine lv_istore (lv' := [(4, .int (nI (sf ((gq_hh b cd + j) % 2 ^ b)))), (0, .ref (ag 0)), (1, .int (nI cd)), (2, .int (nI ((gq_hh b cd + j) % 2 ^ b))), (3, .int (nI j))]) hx hb d_G_slotOf_27 hl (by decide) rfl (fun ls hl => ?_)
        refine lv_iload hx hb d_G_slotOf_29 (lv_at hl 0 rfl) ?_
        refine lv_if_eq (tgt := 47) hx hb d_G_slotOf_31 (by decide) (fun hc2 => ?_) (fun hc2 => ?_)
        · skip
          refine lv_iload_n hx hb d_G_slotOf_47 rfl (lv_at hl 3 rfl) ?_
          exact wz_iret hx hb hr hlocks hK hP hD hS d_G_slotOf_48 ⟨rfl, j, hc, rfl, Or.inl ((nI_eq (by omega) (by omega)).mp (hc2.trans nI_0.symm)), hno⟩
        · skip
          have hne : sf ((gq_hh b cd + j) % 2 ^ b) ≠ 0 := fun e0 => hc2 (by rw [e0]; rfl)
          obtain ⟨x, hgx⟩ := ht.1 _ hk hne
          have hxl := (List.getElem?_eq_some_iff.mp hgx).1
          have hx2 := hx24 x (List.mem_of_getElem? hgx)
          refine lv_aload_n hx hb d_G_slotOf_34 rfl (lv_at hl 1 rfl) ?_
          refine wz_get (v := .ref (ag 1)) (T := T_G) (N := 6) hx hb hts i_G hown hK hP 0 0 rfl rfl rfl 1 (by decide) (hts _ kw_190) rfl rfl d_G_slotOf_35 ?_
          refine lv_iload hx hb d_G_slotOf_38 (lv_at hl 0 rfl) ?_
          refine lv_iconst (v := nI 1) hx hb d_G_slotOf_40 (by decide) ?_
          refine lv_isub hx hb d_G_slotOf_41 ?_
          refine wz_topi (y := nI (sf ((gq_hh b cd + j) % 2 ^ b) - 1)) (pk_sub (by omega)) ?_
          refine wz_iald hx hb hK hP 0 1 (j := (sf ((gq_hh b cd + j) % 2 ^ b) - 1)) rfl rfl (by omega) (by omega) d_G_slotOf_42 ?_
          refine wz_topi (y := nI x) (hst _ x hgx) ?_
          refine lv_iload_n hx hb d_G_slotOf_43 rfl (lv_at hl 2 rfl) ?_
          refine wz_ne (tgt := 49) hx hb d_G_slotOf_44 (by decide) (by omega) (by omega) (fun hc3 => ?_) (fun hc3 => ?_)
          · skip
            refine lv_iload_n hx hb d_G_slotOf_49 rfl (lv_at hl 3 rfl) ?_
            refine lv_iconst (v := nI 1) hx hb d_G_slotOf_50 (by decide) ?_
            refine lv_iadd hx hb d_G_slotOf_51 ?_
            refine wz_topi (y := nI (((gq_hh b cd + j) % 2 ^ b) + 1)) (nI_add ((gq_hh b cd + j) % 2 ^ b) 1) ?_
            refine lv_aload_n hx hb d_G_slotOf_52 rfl (lv_at hl 1 rfl) ?_
            refine wz_get (v := .ref (ag 2)) (T := T_G) (N := 6) hx hb hts i_G hown hK hP 0 0 rfl rfl rfl 2 (by decide) (hts _ kw_191) rfl rfl d_G_slotOf_53 ?_
            refine wz_alen hx hb hK hP 0 2 (n := 2 ^ b) rfl rfl d_G_slotOf_56 ?_
            refine lv_iconst (v := nI 1) hx hb d_G_slotOf_57 (by decide) ?_
            refine lv_isub hx hb d_G_slotOf_58 ?_
            refine wz_topi (y := nI (2 ^ b - 1)) (pk_sub (by omega)) ?_
            refine lv_iand hx hb d_G_slotOf_59 ?_
            refine wz_topi (y := nI ((gq_hh b cd + (j + 1)) % 2 ^ b)) (gq_next hb30) ?_
            refine lv_istore_n (lv' := [(2, .int (nI ((gq_hh b cd + (j + 1)) % 2 ^ b))), (4, .int (nI (sf ((gq_hh b cd + j) % 2 ^ b)))), (0, .ref (ag 0)), (1, .int (nI cd)), (3, .int (nI j))]) hx hb d_G_slotOf_60 rfl hl (by decide) rfl (fun ls hl => ?_)
            refine lv_iinc (v := nI (j + 1)) (lv' := [(3, .int (nI (j + 1))), (2, .int (nI ((gq_hh b cd + (j + 1)) % 2 ^ b))), (4, .int (nI (sf ((gq_hh b cd + j) % 2 ^ b)))), (0, .ref (ag 0)), (1, .int (nI cd))]) hx hb d_G_slotOf_61 hl (k := 4) rfl (nI_1 j) (by decide) rfl (fun ls hl => ?_)
            refine lv_goto (tgt := 12) hx hb d_G_slotOf_64 (by decide) ?_
            exact ih (j + 1) (by omega) (by omega) (fun i hi hs => by
              by_cases e0 : i = j
              · subst e0
                rcases hs with q | q
                · exact hne q
                · exact hc3 (Option.some.inj (hgx.symm.trans q))
              · exact hno i (by omega) hs) _ _ _ hP hD hS (lv_sub hl [3, 4, 1, 0] rfl)
          · skip
            refine lv_iload_n hx hb d_G_slotOf_47 rfl (lv_at hl 3 rfl) ?_
            exact wz_iret hx hb hr hlocks hK hP hD hS d_G_slotOf_48 ⟨rfl, j, hc, rfl, Or.inr (hgx.trans (congrArg some hc3)), hno⟩
  exact loop (2 ^ b + 1) 0 (by omega) (by omega) (fun i h0 => absurd h0 (by omega)) _ _ _ hP hD hS (lv_sub hl [2, 3, 1, 0] rfl)
def po_G_enter (q : wz_Q) (ag am : Nat → Nat) (n b k : Nat) (rl rt : Nat → Nat) (fo st sl : Nat → Int32) (L : Nat → Nat → Int32) (sg tu : Nat → Nat → Nat) (G : List Nat) (a0 cd : Nat) : Int32 → wz_G → Prop := fun v w => ∃ (G' : List Nat) (st' sl' : Nat → Int32) (L' : Nat → Nat → Int32) (c9 j : Nat), w = [gq_W q ag (am 0) (pz_fact n) (2 ^ b) (32 - b) rl st' sl' c9, wz_rows 12 rl (fun i9 => .inl (q.1, pz_fact n, .inl (L' i9))), mv_W q am n k rt fo] ∧ v = nI j ∧ c9 = G'.length ∧ G'[j]? = some cd ∧ (∃ Nw, G' = G ++ Nw) ∧ gq_ok n a0 b k sg tu G' st' sl' L'
set_option maxHeartbeats 4000000 in
set_option maxRecDepth 100000 in
/-- the number of a state, a new one if it has none -/
theorem c_G_enter (l : Launch) (D : va_G) (q : wz_Q) (ag am : Nat → Nat) (n b k : Nat) (rl rt : Nat → Nat) (fo st sl : Nat → Int32) (L : Nat → Nat → Int32) (sg tu : Nat → Nat → Nat) (G : List Nat) (a0 cd : Nat) (hn : n ≤ 8) (hb0 : 0 < b) (hb30 : b ≤ 30) (hM : pz_fact n < 2 ^ b) (hk : k ≤ 6) (hok : gq_ok n a0 b k sg tu G st sl L) (hcd : pz_arr n a0 cd) : wz_Mi l y_G_enter ws_G_enter ({ frames := 1, cells := 0, slots := 0, locals := 24 } : Room) D q ([.ref (ag 0), .int (nI cd)] : List Value) [gq_W q ag (am 0) (pz_fact n) (2 ^ b) (32 - b) rl st sl G.length, wz_rows 12 rl (fun i9 => .inl (q.1, pz_fact n, .inl (L i9))), mv_W q am n k rt fo] (po_G_enter q ag am n b k rl rt fo st sl L sg tu G a0 cd) 0 0 := by
  intro sz9
  refine wz_enter (cc := b_G_enter) (maxL := 4) (ret := (some .int)) (Qc := fun A => (va_Qi (po_G_enter q ag am n b k rl rt fo st sl L sg tu G a0 cd) (wz_At D q A) A)) (by decide) (Nat.le_of_ble_eq_true rfl) ?_
  intro p e s m below meth c A ls C hP hD hS hl
  obtain ⟨hx, hb, hr, hml, hlocks, hown, hts, hN, hK, hA, hnm⟩ := C
  have hown : s.vm.findClass "TwoEndSearch$Graph" = some m.cls := hown
  have hl : lv_has ls 4 [(0, .ref (ag 0)), (1, .int (nI cd))] := hl
  have hp31 := gq_p31 hb30
  have hfl := pz_fact_le hn
  have hp0 : 0 < 2 ^ b := Nat.pow_pos (by decide)
  have hGl := gq_len hok
  obtain ⟨sf, hsl, ht⟩ := hok.2.2.2.1
  have hcl := pz_lt31 hn hcd.1
  refine lv_aload_n hx hb d_G_enter_0 rfl (lv_at hl 0 rfl) ?_
  refine lv_iload_n hx hb d_G_enter_1 rfl (lv_at hl 1 rfl) ?_
  have hQ := wz_split (n := 3) (gc := [gq_W q ag (am 0) (pz_fact n) (2 ^ b) (32 - b) rl st sl G.length]) (gr := [wz_rows 12 rl (fun i9 => .inl (q.1, pz_fact n, .inl (L i9))), mv_W q am n k rt fo]) [0] [1, 2] rfl (by decide) rfl rfl hP hD
  refine wz_calli (va_runV (As := [.int (nI cd)]) (rest := []) ⟨hx, hb, hml, hown, hts⟩ (c_G_slotOf l D q ag (am 0) n b G.length rl st sl G sf cd hn hb0 hb30 hM hok.2.2.1 hsl ht hGl hcl (fun x hx9 => pz_lt31 hn (hok.2.1 x hx9).1) _) (cwV 1 hts (wz_goodV kw_310 kw_312 kw_6 kw_35 kw_313) rfl rfl rfl (by decide +kernel) ⟨Nat.le_of_ble_eq_true rfl, Nat.le_of_ble_eq_true rfl⟩) (wz_preV (gi := 0) (k := 0) hN hK hQ wz_L_ok rfl rfl rfl) rfl rfl hl.1 rfl (lv_room (Nat.le_of_ble_eq_true rfl)) d_G_enter_2 ⟨Nat.le_of_ble_eq_true rfl, Nat.le_of_ble_eq_true rfl⟩) hQ hS hA (fun v_2 gx H locs hp hP hD hS => ?_)
  obtain ⟨rfl, j, hj, rfl, hstop, hleast⟩ := hp
  obtain ⟨hP, hD⟩ := wz_ord (n := 3) (gs' := [gq_W q ag (am 0) (pz_fact n) (2 ^ b) (32 - b) rl st sl G.length, wz_rows 12 rl (fun i9 => .inl (q.1, pz_fact n, .inl (L i9))), mv_W q am n k rt fo]) [0, 1, 2] rfl (by decide) rfl hP hD
  have hk9 : ((gq_hh b cd + j) % 2 ^ b) < 2 ^ b := Nat.mod_lt _ hp0
  have hv9 : sf ((gq_hh b cd + j) % 2 ^ b) ≤ G.length := by
    by_cases e0 : sf ((gq_hh b cd + j) % 2 ^ b) = 0
    · omega
    · obtain ⟨x, hx9⟩ := ht.1 _ hk9 e0
      have := (List.getElem?_eq_some_iff.mp hx9).1
      omega
  refine lv_istore_n (lv' := [(2, .int (nI ((gq_hh b cd + j) % 2 ^ b))), (0, .ref (ag 0)), (1, .int (nI cd))]) hx hb d_G_enter_5 rfl hl (by decide) rfl (fun ls hl => ?_)
  refine lv_aload_n hx hb d_G_enter_6 rfl (lv_at hl 1 rfl) ?_
  refine wz_get (v := .ref (ag 2)) (T := T_G) (N := 6) hx hb hts i_G hown hK hP 0 0 rfl rfl rfl 2 (by decide) (hts _ kw_191) rfl rfl d_G_enter_7 ?_
  refine lv_iload_n hx hb d_G_enter_10 rfl (lv_at hl 0 rfl) ?_
  refine wz_iald hx hb hK hP 0 2 (j := ((gq_hh b cd + j) % 2 ^ b)) rfl rfl (by omega) (by omega) d_G_enter_11 ?_
  refine wz_topi (y := nI (sf ((gq_hh b cd + j) % 2 ^ b))) (hsl _ hk9) ?_
  refine lv_if_eq (tgt := 24) hx hb d_G_enter_12 (by decide) (fun hc => ?_) (fun hc => ?_)
  · skip
    have h0 : sf ((gq_hh b cd + j) % 2 ^ b) = 0 := (nI_eq (by omega) (by omega)).mp (hc.trans nI_0.symm)
    have hnew : cd ∉ G := fun hm => by
      obtain ⟨i, hi⟩ := List.getElem?_of_mem hm
      have := pz_ht_in ht hok.1 hp0 hi hstop hleast
      omega
    have hroom := gq_room hok hcd hnew
    refine lv_aload_n hx hb d_G_enter_24 rfl (lv_at hl 1 rfl) ?_
    refine wz_get (v := .int (nI G.length)) (T := T_G) (N := 6) hx hb hts i_G hown hK hP 0 0 rfl rfl rfl 5 (by decide) (hts _ kw_194) rfl rfl d_G_enter_25 ?_
    refine lv_aload_n hx hb d_G_enter_28 rfl (lv_at hl 1 rfl) ?_
    refine wz_get (v := .ref (ag 1)) (T := T_G) (N := 6) hx hb hts i_G hown hK hP 0 0 rfl rfl rfl 1 (by decide) (hts _ kw_190) rfl rfl d_G_enter_29 ?_
    refine wz_alen hx hb hK hP 0 1 (n := pz_fact n) rfl rfl d_G_enter_32 ?_
    refine wz_lt (tgt := 38) hx hb d_G_enter_33 (by decide) (by omega) (by omega) (fun hc2 => ?_) (fun hc2 => ?_)
    · skip
      refine lv_aload_n hx hb d_G_enter_38 rfl (lv_at hl 1 rfl) ?_
      refine wz_get (v := .ref (ag 1)) (T := T_G) (N := 6) hx hb hts i_G hown hK hP 0 0 rfl rfl rfl 1 (by decide) (hts _ kw_190) rfl rfl d_G_enter_39 ?_
      refine lv_aload_n hx hb d_G_enter_42 rfl (lv_at hl 1 rfl) ?_
      refine wz_get (v := .int (nI G.length)) (T := T_G) (N := 6) hx hb hts i_G hown hK hP 0 0 rfl rfl rfl 5 (by decide) (hts _ kw_194) rfl rfl d_G_enter_43 ?_
      refine lv_iload_n hx hb d_G_enter_46 rfl (lv_at hl 2 rfl) ?_
      refine wz_iast (gs' := [gq_W q ag (am 0) (pz_fact n) (2 ^ b) (32 - b) rl (upd st G.length (nI cd)) sl G.length, wz_rows 12 rl (fun i9 => .inl (q.1, pz_fact n, .inl (L i9))), mv_W q am n k rt fo]) hx hb hK hP hD hS 0 1 (j := G.length) rfl rfl (by omega) (by omega) d_G_enter_47 rfl (fun H locs hP hD hS => ?_)
      refine lv_iconst (v := nI 0) hx hb d_G_enter_48 (by decide) ?_
      refine lv_istore_n (lv' := [(3, .int (nI 0)), (2, .int (nI ((gq_hh b cd + j) % 2 ^ b))), (0, .ref (ag 0)), (1, .int (nI cd))]) hx hb d_G_enter_49 rfl hl (by decide) rfl (fun ls hl => ?_)
      have loop : ∀ (d : Nat) (i : Nat) (L1 : Nat → Nat → Int32), i ≤ k → k + 1 ≤ i + d → (∀ u, u < i ∨ (6 ≤ u ∧ u < 6 + i) → L1 u G.length = -1) → (∀ u y, y ≠ G.length → L1 u y = L u y) → ∀ (H : Heap) (locs : List Loc) (ls : Array Slot), va_P D vwCl ([gq_W q ag (am 0) (pz_fact n) (2 ^ b) (32 - b) rl (upd st G.length (nI cd)) sl G.length, wz_rows 12 rl (fun i9 => .inl (q.1, pz_fact n, .inl (L1 i9))), mv_W q am n k rt fo] : wz_G).flatten H → va_D A ([gq_W q ag (am 0) (pz_fact n) (2 ^ b) (32 - b) rl (upd st G.length (nI cd)) sl G.length, wz_rows 12 rl (fun i9 => .inl (q.1, pz_fact n, .inl (L1 i9))), mv_W q am n k rt fo] : wz_G).flatten → va_S A s.heap H locs → lv_has ls 4 [(0, .ref (ag 0)), (1, .int (nI cd)), (2, .int (nI ((gq_hh b cd + j) % 2 ^ b))), (3, .int (nI i))] → W p l e ({ frames := 1, cells := 0, slots := 0, locals := 24 } : Room) s m ([.ref (ag 0), .int (nI cd)] : List Value).toArray below meth c H locs 0 0 (MQ below (va_Qi (po_G_enter q ag am n b k rl rt fo st sl L sg tu G a0 cd) (wz_At D q A) A) ([.ref (ag 0), .int (nI cd)] : List Value).toArray s 0 0 A) (F0 m 50 ls []) := by
        intro d
        induction d with
        | zero =>
          intro i L1 hi hd h1 h2
          omega
        | succ d ih =>
          intro i L1 hi hd h1 h2 H locs ls hP hD hS hl
          refine lv_iload_n hx hb d_G_enter_50 rfl (lv_at hl 3 rfl) ?_
          refine lv_aload_n hx hb d_G_enter_51 rfl (lv_at hl 0 rfl) ?_
          refine wz_get (v := .ref (am 0)) (T := T_G) (N := 6) hx hb hts i_G hown hK hP 0 0 rfl rfl rfl 0 (by decide) (hts _ kw_188) rfl rfl d_G_enter_52 ?_
          refine wz_getN (v := .int (nI k)) (T := T_M) (N := 4) hx hb hts i_M hown hK hP 2 0 rfl rfl rfl 3 (by decide) (hN _ (List.mem_of_getElem? (i := 0) rfl)) rfl rfl d_G_enter_55 ?_
          refine wz_ge (tgt := 94) hx hb d_G_enter_58 (by decide) (by omega) (by omega) (fun hc3 => ?_) (fun hc3 => ?_)
          · skip
            refine lv_aload_n hx hb d_G_enter_94 rfl (lv_at hl 0 rfl) ?_
            refine lv_dup hx hb d_G_enter_95 rfl ?_
            refine wz_get (v := .int (nI G.length)) (T := T_G) (N := 6) hx hb hts i_G hown hK hP 0 0 rfl rfl rfl 5 (by decide) (hts _ kw_194) rfl rfl d_G_enter_96 ?_
            refine lv_iconst (v := nI 1) hx hb d_G_enter_99 (by decide) ?_
            refine lv_iadd hx hb d_G_enter_100 ?_
            refine wz_topi (y := nI (G.length + 1)) (nI_add G.length 1) ?_
            refine wz_put (gs' := [gq_W q ag (am 0) (pz_fact n) (2 ^ b) (32 - b) rl (upd st G.length (nI cd)) sl (G.length + 1), wz_rows 12 rl (fun i9 => .inl (q.1, pz_fact n, .inl (L1 i9))), mv_W q am n k rt fo]) (v := .int (nI (G.length + 1))) (T := T_G) (N := 6) hx hb hts i_G t_G t_G_ok n_G hown hK hP hD hS 0 0 rfl rfl rfl 5 (by decide) (hts _ kw_194) rfl rfl (ty := t_G 5) (by decide +kernel) rfl rfl (Nat.le_of_ble_eq_true rfl) d_G_enter_101 rfl (fun H locs hP hD hS => ?_)
            refine lv_aload_n hx hb d_G_enter_104 rfl (lv_at hl 0 rfl) ?_
            refine wz_get (v := .ref (ag 2)) (T := T_G) (N := 6) hx hb hts i_G hown hK hP 0 0 rfl rfl rfl 2 (by decide) (hts _ kw_191) rfl rfl d_G_enter_105 ?_
            refine lv_iload_n hx hb d_G_enter_108 rfl (lv_at hl 2 rfl) ?_
            refine lv_aload_n hx hb d_G_enter_109 rfl (lv_at hl 0 rfl) ?_
            refine wz_get (v := .int (nI (G.length + 1))) (T := T_G) (N := 6) hx hb hts i_G hown hK hP 0 0 rfl rfl rfl 5 (by decide) (hts _ kw_194) rfl rfl d_G_enter_110 ?_
            refine wz_iast (gs' := [gq_W q ag (am 0) (pz_fact n) (2 ^ b) (32 - b) rl (upd st G.length (nI cd)) (upd sl ((gq_hh b cd + j) % 2 ^ b) (nI (G.length + 1))) (G.length + 1), wz_rows 12 rl (fun i9 => .inl (q.1, pz_fact n, .inl (L1 i9))), mv_W q am n k rt fo]) hx hb hK hP hD hS 0 2 (j := ((gq_hh b cd + j) % 2 ^ b)) rfl rfl (by omega) (by omega) d_G_enter_113 rfl (fun H locs hP hD hS => ?_)
            refine lv_aload_n hx hb d_G_enter_114 rfl (lv_at hl 0 rfl) ?_
            refine wz_get (v := .int (nI (G.length + 1))) (T := T_G) (N := 6) hx hb hts i_G hown hK hP 0 0 rfl rfl rfl 5 (by decide) (hts _ kw_194) rfl rfl d_G_enter_115 ?_
            refine lv_iconst (v := nI 1) hx hb d_G_enter_118 (by decide) ?_
            refine lv_isub hx hb d_G_enter_119 ?_
            refine wz_topi (y := nI G.length) (pk_sub (by omega)) ?_
            exact wz_iret hx hb hr hlocks hK hP hD hS d_G_enter_120 ⟨G ++ [cd], _, _, L1, G.length + 1, G.length, rfl, rfl, by simp, by simp, ⟨_, rfl⟩, gq_put hok hcd hnew hsl ht hj h0 hleast (fun u hu => h1 u (by have := hu.1; have := hu.2.1; have := hu.2.2; omega)) h2⟩
          · skip
            refine lv_aload_n hx hb d_G_enter_61 rfl (lv_at hl 0 rfl) ?_
            refine wz_get (v := .ref (ag 3)) (T := T_G) (N := 6) hx hb hts i_G hown hK hP 0 0 rfl rfl rfl 4 (by decide) (hts _ kw_193) rfl rfl d_G_enter_62 ?_
            refine lv_iload_n hx hb d_G_enter_65 rfl (lv_at hl 3 rfl) ?_
            refine wz_aald hx hb hK hP 0 3 (j := i) (r := rl) rfl rfl (by omega) (by decide) d_G_enter_66 ?_
            refine lv_aload_n hx hb d_G_enter_67 rfl (lv_at hl 0 rfl) ?_
            refine wz_get (v := .int (nI G.length)) (T := T_G) (N := 6) hx hb hts i_G hown hK hP 0 0 rfl rfl rfl 5 (by decide) (hts _ kw_194) rfl rfl d_G_enter_68 ?_
            refine lv_iconst (v := (-1)) hx hb d_G_enter_71 (by decide) ?_
            refine wz_iast (gs' := [gq_W q ag (am 0) (pz_fact n) (2 ^ b) (32 - b) rl (upd st G.length (nI cd)) sl G.length, wz_rows 12 rl (fun i9 => .inl (q.1, pz_fact n, .inl ((pz_up L1 i (upd (L1 i) G.length (-1))) i9))), mv_W q am n k rt fo]) hx hb hK hP hD hS 1 i (j := G.length) rfl (wz_rows_get (by omega)) (by omega) (by omega) d_G_enter_72 (by rw [wz_rows_iset]; rfl) (fun H locs hP hD hS => ?_)
            refine lv_aload_n hx hb d_G_enter_73 rfl (lv_at hl 0 rfl) ?_
            refine wz_get (v := .ref (ag 3)) (T := T_G) (N := 6) hx hb hts i_G hown hK hP 0 0 rfl rfl rfl 4 (by decide) (hts _ kw_193) rfl rfl d_G_enter_74 ?_
            refine lv_iload_n hx hb d_G_enter_77 rfl (lv_at hl 3 rfl) ?_
            refine lv_bipush (v := nI 6) hx hb d_G_enter_78 (by decide) ?_
            refine lv_iadd hx hb d_G_enter_80 ?_
            refine wz_topi (y := nI (i + 6)) (nI_add i 6) ?_
            refine wz_aald hx hb hK hP 0 3 (j := (i + 6)) (r := rl) rfl rfl (by omega) (by decide) d_G_enter_81 ?_
            refine lv_aload_n hx hb d_G_enter_82 rfl (lv_at hl 0 rfl) ?_
            refine wz_get (v := .int (nI G.length)) (T := T_G) (N := 6) hx hb hts i_G hown hK hP 0 0 rfl rfl rfl 5 (by decide) (hts _ kw_194) rfl rfl d_G_enter_83 ?_
            refine lv_iconst (v := (-1)) hx hb d_G_enter_86 (by decide) ?_
            refine wz_iast (gs' := [gq_W q ag (am 0) (pz_fact n) (2 ^ b) (32 - b) rl (upd st G.length (nI cd)) sl G.length, wz_rows 12 rl (fun i9 => .inl (q.1, pz_fact n, .inl ((pz_up (pz_up L1 i (upd (L1 i) G.length (-1))) (i + 6) (upd ((pz_up L1 i (upd (L1 i) G.length (-1))) (i + 6)) G.length (-1))) i9))), mv_W q am n k rt fo]) hx hb hK hP hD hS 1 (i + 6) (j := G.length) rfl (wz_rows_get (by omega)) (by omega) (by omega) d_G_enter_87 (by rw [wz_rows_iset]; rfl) (fun H locs hP hD hS => ?_)
            refine lv_iinc (v := nI (i + 1)) (lv' := [(3, .int (nI (i + 1))), (0, .ref (ag 0)), (1, .int (nI cd)), (2, .int (nI ((gq_hh b cd + j) % 2 ^ b)))]) hx hb d_G_enter_88 hl (k := 3) rfl (nI_1 i) (by decide) rfl (fun ls hl => ?_)
            refine lv_goto (tgt := 50) hx hb d_G_enter_91 (by decide) ?_
            exact ih (i + 1) (pz_up (pz_up L1 i (upd (L1 i) G.length (-1))) (i + 6) (upd ((pz_up L1 i (upd (L1 i) G.length (-1))) (i + 6)) G.length (-1))) (by omega) (by omega) (fun u hu => gq_lset1 (fun hu2 => h1 u hu2) hu) (fun u y hy => (gq_lset2 u hy).trans (h2 u y hy)) _ _ _ hP hD hS (lv_sub hl [1, 2, 3, 0] rfl)
      exact loop (k + 1) 0 L (by omega) (by omega) (fun u hu => absurd hu (by omega)) (fun _ _ _ => rfl) _ _ _ hP hD hS (lv_sub hl [2, 3, 1, 0] rfl)
    · skip
      exact absurd hroom (by omega)
  · skip
    have hne : sf ((gq_hh b cd + j) % 2 ^ b) ≠ 0 := fun e0 => hc (by rw [e0]; rfl)
    refine lv_aload_n hx hb d_G_enter_15 rfl (lv_at hl 1 rfl) ?_
    refine wz_get (v := .ref (ag 2)) (T := T_G) (N := 6) hx hb hts i_G hown hK hP 0 0 rfl rfl rfl 2 (by decide) (hts _ kw_191) rfl rfl d_G_enter_16 ?_
    refine lv_iload_n hx hb d_G_enter_19 rfl (lv_at hl 0 rfl) ?_
    refine wz_iald hx hb hK hP 0 2 (j := ((gq_hh b cd + j) % 2 ^ b)) rfl rfl (by omega) (by omega) d_G_enter_20 ?_
    refine wz_topi (y := nI (sf ((gq_hh b cd + j) % 2 ^ b))) (hsl _ hk9) ?_
    refine lv_iconst (v := nI 1) hx hb d_G_enter_21 (by decide) ?_
    refine lv_isub hx hb d_G_enter_22 ?_
    refine wz_topi (y := nI (sf ((gq_hh b cd + j) % 2 ^ b) - 1)) (pk_sub (by omega)) ?_
    exact wz_iret hx hb hr hlocks hK hP hD hS d_G_enter_23 ⟨G, st, sl, L, G.length, sf ((gq_hh b cd + j) % 2 ^ b) - 1, rfl, rfl, rfl, hstop.resolve_left hne, ⟨[], by simp⟩, hok⟩
def po_G_follow (q : wz_Q) (ag am : Nat → Nat) (n b k : Nat) (rl rt : Nat → Nat) (fo st sl : Nat → Int32) (L : Nat → Nat → Int32) (sg tu : Nat → Nat → Nat) (G : List Nat) (M : Nat → Nat → Int32) (od : Nat → Nat) (a0 u i x : Nat) : Int32 → wz_G → Prop := fun v w => ∃ (G' : List Nat) (st' sl' : Nat → Int32) (L' : Nat → Nat → Int32) (c9 j : Nat), w = [gq_W q ag (am 0) (pz_fact n) (2 ^ b) (32 - b) rl st' sl' c9, wz_rows 12 rl (fun i9 => .inl (q.1, pz_fact n, .inl (L' i9))), mv_W q am n k rt fo, wz_rows 12 rt (fun i9 => .inl (q.1, 8, .inl (M i9)))] ∧ v = nI j ∧ c9 = G'.length ∧ G'[j]? = some (pz_act n (gq_in sg tu u) x) ∧ (∃ Nw, G' = G ++ Nw) ∧ gq_ok n a0 b k sg tu G' st' sl' L'
set_option maxHeartbeats 4000000 in
set_option maxRecDepth 100000 in
/-- where a way leads -/
theorem c_G_follow (l : Launch) (D : va_G) (q : wz_Q) (ag am : Nat → Nat) (n b k : Nat) (rl rt : Nat → Nat) (fo st sl : Nat → Int32) (L : Nat → Nat → Int32) (sg tu : Nat → Nat → Nat) (G : List Nat) (M : Nat → Nat → Int32) (od : Nat → Nat) (a0 u i x : Nat) (hn : n ≤ 8) (hb0 : 0 < b) (hb30 : b ≤ 30) (hM : pz_fact n < 2 ^ b) (hk : k ≤ 6) (hok : gq_ok n a0 b k sg tu G st sl L) (hmv : mv_ok n k fo M sg tu od) (hu : gq_way k u) (hi : G[i]? = some x) : wz_Mi l y_G_follow ws_G_follow ({ frames := 2, cells := 0, slots := 0, locals := 47 } : Room) D q ([.ref (ag 0), .int (nI u), .int (nI i)] : List Value) [gq_W q ag (am 0) (pz_fact n) (2 ^ b) (32 - b) rl st sl G.length, wz_rows 12 rl (fun i9 => .inl (q.1, pz_fact n, .inl (L i9))), mv_W q am n k rt fo, wz_rows 12 rt (fun i9 => .inl (q.1, 8, .inl (M i9)))] (po_G_follow q ag am n b k rl rt fo st sl L sg tu G M od a0 u i x) 0 0 := by
  intro sz9
  refine wz_enter (cc := b_G_follow) (maxL := 6) (ret := (some .int)) (Qc := fun A => (va_Qi (po_G_follow q ag am n b k rl rt fo st sl L sg tu G M od a0 u i x) (wz_At D q A) A)) (by decide) (Nat.le_of_ble_eq_true rfl) ?_
  intro p e s m below meth c A ls C hP hD hS hl
  obtain ⟨hx, hb, hr, hml, hlocks, hown, hts, hN, hK, hA, hnm⟩ := C
  have hown : s.vm.findClass "TwoEndSearch$Graph" = some m.cls := hown
  have hl : lv_has ls 6 [(0, .ref (ag 0)), (1, .int (nI u)), (2, .int (nI i))] := hl
  have hp31 := gq_p31 hb30
  have hfl := pz_fact_le hn
  have hGl := gq_len hok
  have hil := (List.getElem?_eq_some_iff.mp hi).1
  have hu12 := hu.1
  have hxa := hok.2.1 x (List.mem_of_getElem? hi)
  refine lv_aload_n hx hb d_G_follow_0 rfl (lv_at hl 0 rfl) ?_
  refine wz_get (v := .ref (ag 3)) (T := T_G) (N := 6) hx hb hts i_G hown hK hP 0 0 rfl rfl rfl 4 (by decide) (hts _ kw_193) rfl rfl d_G_follow_1 ?_
  refine lv_iload_n hx hb d_G_follow_4 rfl (lv_at hl 1 rfl) ?_
  refine wz_aald hx hb hK hP 0 3 (j := u) (r := rl) rfl rfl (by omega) (by decide) d_G_follow_5 ?_
  refine lv_iload_n hx hb d_G_follow_6 rfl (lv_at hl 2 rfl) ?_
  refine wz_iald hx hb hK hP 1 u (j := i) rfl (wz_rows_get (by omega)) (by omega) (by omega) d_G_follow_7 ?_
  refine lv_istore_n (lv' := [(3, .int (L u i)), (0, .ref (ag 0)), (1, .int (nI u)), (2, .int (nI i))]) hx hb d_G_follow_8 rfl hl (by decide) rfl (fun ls hl => ?_)
  refine lv_iload_n hx hb d_G_follow_9 rfl (lv_at hl 0 rfl) ?_
  refine lv_iconst (v := (-1)) hx hb d_G_follow_10 (by decide) ?_
  refine lv_icmp_eq (tgt := 16) hx hb d_G_follow_11 (by decide) (fun hc => ?_) (fun hc => ?_)
  · skip
    refine lv_aload_n hx hb d_G_follow_16 rfl (lv_at hl 1 rfl) ?_
    refine lv_aload_n hx hb d_G_follow_17 rfl (lv_at hl 1 rfl) ?_
    refine wz_get (v := .ref (am 0)) (T := T_G) (N := 6) hx hb hts i_G hown hK hP 0 0 rfl rfl rfl 0 (by decide) (hts _ kw_188) rfl rfl d_G_follow_18 ?_
    refine lv_iload_n hx hb d_G_follow_21 rfl (lv_at hl 2 rfl) ?_
    refine lv_aload_n hx hb d_G_follow_22 rfl (lv_at hl 1 rfl) ?_
    refine wz_get (v := .ref (ag 1)) (T := T_G) (N := 6) hx hb hts i_G hown hK hP 0 0 rfl rfl rfl 1 (by decide) (hts _ kw_190) rfl rfl d_G_follow_23 ?_
    refine lv_iload_n hx hb d_G_follow_26 rfl (lv_at hl 3 rfl) ?_
    refine wz_iald hx hb hK hP 0 1 (j := i) rfl rfl (by omega) (by omega) d_G_follow_27 ?_
    refine wz_topi (y := nI x) (hok.2.2.1 i x hi) ?_
    have hQ := wz_split (n := 4) (gc := [mv_W q am n k rt fo, wz_rows 12 rt (fun i9 => .inl (q.1, 8, .inl (M i9)))]) (gr := [gq_W q ag (am 0) (pz_fact n) (2 ^ b) (32 - b) rl st sl G.length, wz_rows 12 rl (fun i9 => .inl (q.1, pz_fact n, .inl (L i9)))]) [2, 3] [0, 1] rfl (by decide) rfl rfl hP hD
    refine wz_calli (va_runV (As := [.int (nI u), .int (nI x)]) (rest := [.ref (ag 0)]) ⟨hx, hb, hml, hown, hts⟩ (c_M_bring l D q am n k rt fo M u x (gq_out sg tu u) (gq_in sg tu u) hn hu12 hxa.1 (gq_row hmv hu) (gq_perm hmv hu) _) (cwV 2 hts (wz_goodV kw_367 kw_138 kw_139 kw_32 kw_140) rfl rfl rfl (by decide +kernel) ⟨Nat.le_of_ble_eq_true rfl, Nat.le_of_ble_eq_true rfl⟩) (wz_preV (gi := 0) (k := 0) hN hK hQ wz_L_ok rfl rfl rfl) rfl rfl hl.1 rfl (lv_room (Nat.le_of_ble_eq_true rfl)) d_G_follow_28 ⟨Nat.le_of_ble_eq_true rfl, Nat.le_of_ble_eq_true rfl⟩) hQ hS hA (fun v_28 gx H locs hp hP hD hS => ?_)
    obtain ⟨rfl, rfl⟩ := hp
    obtain ⟨hP, hD⟩ := wz_ord (n := 4) (gs' := [gq_W q ag (am 0) (pz_fact n) (2 ^ b) (32 - b) rl st sl G.length, wz_rows 12 rl (fun i9 => .inl (q.1, pz_fact n, .inl (L i9))), mv_W q am n k rt fo, wz_rows 12 rt (fun i9 => .inl (q.1, 8, .inl (M i9)))]) [2, 3, 0, 1] rfl (by decide) rfl hP hD
    have hQ := wz_split (n := 4) (gc := [gq_W q ag (am 0) (pz_fact n) (2 ^ b) (32 - b) rl st sl G.length, wz_rows 12 rl (fun i9 => .inl (q.1, pz_fact n, .inl (L i9))), mv_W q am n k rt fo]) (gr := [wz_rows 12 rt (fun i9 => .inl (q.1, 8, .inl (M i9)))]) [0, 1, 2] [3] rfl (by decide) rfl rfl hP hD
    refine wz_calli (va_runV (As := [.int (nI (pz_act n (gq_in sg tu u) x))]) (rest := []) ⟨hx, hb, hml, hown, hts⟩ (c_G_enter l D q ag am n b k rl rt fo st sl L sg tu G a0 (pz_act n (gq_in sg tu u) x) hn hb0 hb30 hM hk hok (pz_arr_act (gq_perm hmv hu) hxa) _) (cwV 1 hts (wz_goodV kw_368 kw_316 kw_317 kw_35 kw_318) rfl rfl rfl (by decide +kernel) ⟨Nat.le_of_ble_eq_true rfl, Nat.le_of_ble_eq_true rfl⟩) (wz_preV (gi := 0) (k := 0) hN hK hQ wz_L_ok rfl rfl rfl) rfl rfl hl.1 rfl (lv_room (Nat.le_of_ble_eq_true rfl)) d_G_follow_31 ⟨Nat.le_of_ble_eq_true rfl, Nat.le_of_ble_eq_true rfl⟩) hQ hS hA (fun v_31 gx H locs hp hP hD hS => ?_)
    obtain ⟨G', st', sl', L', c9, j, rfl, rfl, rfl, hj, ⟨Nw, hNw⟩, hok'⟩ := hp
    obtain ⟨hP, hD⟩ := wz_ord (n := 4) (gs' := [gq_W q ag (am 0) (pz_fact n) (2 ^ b) (32 - b) rl st' sl' G'.length, wz_rows 12 rl (fun i9 => .inl (q.1, pz_fact n, .inl (L' i9))), mv_W q am n k rt fo, wz_rows 12 rt (fun i9 => .inl (q.1, 8, .inl (M i9)))]) [0, 1, 2, 3] rfl (by decide) rfl hP hD
    have hGl' := gq_len hok'
    have hjl := (List.getElem?_eq_some_iff.mp hj).1
    have hi' : G'[i]? = some x := by rw [hNw, List.getElem?_append_left hil]; exact hi
    have hil' := (List.getElem?_eq_some_iff.mp hi').1
    have hun := (gq_un_way hk hu).1
    refine lv_istore (lv' := [(4, .int (nI j)), (3, .int (L u i)), (0, .ref (ag 0)), (1, .int (nI u)), (2, .int (nI i))]) hx hb d_G_follow_34 hl (by decide) rfl (fun ls hl => ?_)
    refine lv_iload_n hx hb d_G_follow_36 rfl (lv_at hl 3 rfl) ?_
    refine lv_bipush (v := nI 6) hx hb d_G_follow_37 (by decide) ?_
    refine wz_ge (tgt := 49) hx hb d_G_follow_39 (by decide) (by omega) (by omega) (fun hc2 => ?_) (fun hc2 => ?_)
    · skip
      refine lv_iload_n hx hb d_G_follow_49 rfl (lv_at hl 3 rfl) ?_
      refine lv_bipush (v := nI 6) hx hb d_G_follow_50 (by decide) ?_
      refine lv_isub hx hb d_G_follow_52 ?_
      refine wz_topi (y := nI (gq_un u)) ((pk_sub (by omega)).trans (congrArg nI (if_neg (by omega)).symm)) ?_
      refine lv_istore (lv' := [(5, .int (nI (gq_un u))), (4, .int (nI j)), (3, .int (L u i)), (0, .ref (ag 0)), (1, .int (nI u)), (2, .int (nI i))]) hx hb d_G_follow_53 hl (by decide) rfl (fun ls hl => ?_)
      refine lv_aload_n hx hb d_G_follow_55 rfl (lv_at hl 3 rfl) ?_
      refine wz_get (v := .ref (ag 3)) (T := T_G) (N := 6) hx hb hts i_G hown hK hP 0 0 rfl rfl rfl 4 (by decide) (hts _ kw_193) rfl rfl d_G_follow_56 ?_
      refine lv_iload_n hx hb d_G_follow_59 rfl (lv_at hl 4 rfl) ?_
      refine wz_aald hx hb hK hP 0 3 (j := u) (r := rl) rfl rfl (by omega) (by decide) d_G_follow_60 ?_
      refine lv_iload_n hx hb d_G_follow_61 rfl (lv_at hl 5 rfl) ?_
      refine lv_iload hx hb d_G_follow_62 (lv_at hl 1 rfl) ?_
      refine wz_iast (gs' := [gq_W q ag (am 0) (pz_fact n) (2 ^ b) (32 - b) rl st' sl' G'.length, wz_rows 12 rl (fun i9 => .inl (q.1, pz_fact n, .inl ((pz_up L' u (upd (L' u) i (nI j))) i9))), mv_W q am n k rt fo, wz_rows 12 rt (fun i9 => .inl (q.1, 8, .inl (M i9)))]) hx hb hK hP hD hS 1 u (j := i) rfl (wz_rows_get (by omega)) (by omega) (by omega) d_G_follow_64 (by rw [wz_rows_iset]; rfl) (fun H locs hP hD hS => ?_)
      refine lv_aload_n hx hb d_G_follow_65 rfl (lv_at hl 3 rfl) ?_
      refine wz_get (v := .ref (ag 3)) (T := T_G) (N := 6) hx hb hts i_G hown hK hP 0 0 rfl rfl rfl 4 (by decide) (hts _ kw_193) rfl rfl d_G_follow_66 ?_
      refine lv_iload hx hb d_G_follow_69 (lv_at hl 0 rfl) ?_
      refine wz_aald hx hb hK hP 0 3 (j := (gq_un u)) (r := rl) rfl rfl (by omega) (by decide) d_G_follow_71 ?_
      refine lv_iload hx hb d_G_follow_72 (lv_at hl 1 rfl) ?_
      refine lv_iload_n hx hb d_G_follow_74 rfl (lv_at hl 5 rfl) ?_
      refine wz_iast (gs' := [gq_W q ag (am 0) (pz_fact n) (2 ^ b) (32 - b) rl st' sl' G'.length, wz_rows 12 rl (fun i9 => .inl (q.1, pz_fact n, .inl ((pz_up (pz_up L' u (upd (L' u) i (nI j))) (gq_un u) (upd ((pz_up L' u (upd (L' u) i (nI j))) (gq_un u)) j (nI i))) i9))), mv_W q am n k rt fo, wz_rows 12 rt (fun i9 => .inl (q.1, 8, .inl (M i9)))]) hx hb hK hP hD hS 1 (gq_un u) (j := j) rfl (wz_rows_get (by omega)) (by omega) (by omega) d_G_follow_75 (by rw [wz_rows_iset]; rfl) (fun H locs hP hD hS => ?_)
      refine lv_iload hx hb d_G_follow_76 (lv_at hl 1 rfl) ?_
      exact wz_iret hx hb hr hlocks hK hP hD hS d_G_follow_78 ⟨G', st', sl', _, G'.length, j, rfl, rfl, rfl, hj, ⟨Nw, hNw⟩, gq_link hmv hok' hu hi' hj⟩
    · skip
      refine lv_iload_n hx hb d_G_follow_42 rfl (lv_at hl 3 rfl) ?_
      refine lv_bipush (v := nI 6) hx hb d_G_follow_43 (by decide) ?_
      refine lv_iadd hx hb d_G_follow_45 ?_
      refine wz_topi (y := nI (gq_un u)) ((nI_add _ _).trans (congrArg nI (if_pos (by omega)).symm)) ?_
      refine lv_goto (tgt := 53) hx hb d_G_follow_46 (by decide) ?_
      refine lv_istore (lv' := [(5, .int (nI (gq_un u))), (4, .int (nI j)), (3, .int (L u i)), (0, .ref (ag 0)), (1, .int (nI u)), (2, .int (nI i))]) hx hb d_G_follow_53 hl (by decide) rfl (fun ls hl => ?_)
      refine lv_aload_n hx hb d_G_follow_55 rfl (lv_at hl 3 rfl) ?_
      refine wz_get (v := .ref (ag 3)) (T := T_G) (N := 6) hx hb hts i_G hown hK hP 0 0 rfl rfl rfl 4 (by decide) (hts _ kw_193) rfl rfl d_G_follow_56 ?_
      refine lv_iload_n hx hb d_G_follow_59 rfl (lv_at hl 4 rfl) ?_
      refine wz_aald hx hb hK hP 0 3 (j := u) (r := rl) rfl rfl (by omega) (by decide) d_G_follow_60 ?_
      refine lv_iload_n hx hb d_G_follow_61 rfl (lv_at hl 5 rfl) ?_
      refine lv_iload hx hb d_G_follow_62 (lv_at hl 1 rfl) ?_
      refine wz_iast (gs' := [gq_W q ag (am 0) (pz_fact n) (2 ^ b) (32 - b) rl st' sl' G'.length, wz_rows 12 rl (fun i9 => .inl (q.1, pz_fact n, .inl ((pz_up L' u (upd (L' u) i (nI j))) i9))), mv_W q am n k rt fo, wz_rows 12 rt (fun i9 => .inl (q.1, 8, .inl (M i9)))]) hx hb hK hP hD hS 1 u (j := i) rfl (wz_rows_get (by omega)) (by omega) (by omega) d_G_follow_64 (by rw [wz_rows_iset]; rfl) (fun H locs hP hD hS => ?_)
      refine lv_aload_n hx hb d_G_follow_65 rfl (lv_at hl 3 rfl) ?_
      refine wz_get (v := .ref (ag 3)) (T := T_G) (N := 6) hx hb hts i_G hown hK hP 0 0 rfl rfl rfl 4 (by decide) (hts _ kw_193) rfl rfl d_G_follow_66 ?_
      refine lv_iload hx hb d_G_follow_69 (lv_at hl 0 rfl) ?_
      refine wz_aald hx hb hK hP 0 3 (j := (gq_un u)) (r := rl) rfl rfl (by omega) (by decide) d_G_follow_71 ?_
      refine lv_iload hx hb d_G_follow_72 (lv_at hl 1 rfl) ?_
      refine lv_iload_n hx hb d_G_follow_74 rfl (lv_at hl 5 rfl) ?_
      refine wz_iast (gs' := [gq_W q ag (am 0) (pz_fact n) (2 ^ b) (32 - b) rl st' sl' G'.length, wz_rows 12 rl (fun i9 => .inl (q.1, pz_fact n, .inl ((pz_up (pz_up L' u (upd (L' u) i (nI j))) (gq_un u) (upd ((pz_up L' u (upd (L' u) i (nI j))) (gq_un u)) j (nI i))) i9))), mv_W q am n k rt fo, wz_rows 12 rt (fun i9 => .inl (q.1, 8, .inl (M i9)))]) hx hb hK hP hD hS 1 (gq_un u) (j := j) rfl (wz_rows_get (by omega)) (by omega) (by omega) d_G_follow_75 (by rw [wz_rows_iset]; rfl) (fun H locs hP hD hS => ?_)
      refine lv_iload hx hb d_G_follow_76 (lv_at hl 1 rfl) ?_
      exact wz_iret hx hb hr hlocks hK hP hD hS d_G_follow_78 ⟨G', st', sl', _, G'.length, j, rfl, rfl, rfl, hj, ⟨Nw, hNw⟩, gq_link hmv hok' hu hi' hj⟩
  · skip
    obtain ⟨j, hj1, hj2⟩ := (hok.2.2.2.2 u i x hu hi).resolve_left hc
    refine lv_iload_n hx hb d_G_follow_14 rfl (lv_at hl 0 rfl) ?_
    exact wz_iret hx hb hr hlocks hK hP hD hS d_G_follow_15 ⟨G, st, sl, L, G.length, j, rfl, hj1, rfl, hj2, ⟨[], by simp⟩, hok⟩
def po_G_dropAll (q : wz_Q) (ag : Nat → Nat) (mr n b : Nat) (rl : Nat → Nat) (st sl : Nat → Int32) (G : List Nat) (sf : Nat → Nat) : wz_G → Prop := fun w => ∃ (sl' : Nat → Int32) (s' : Nat → Nat), w = [gq_W q ag mr (pz_fact n) (2 ^ b) (32 - b) rl st sl' 0] ∧ (∀ j, j < 2 ^ b → sl' j = nI (s' j)) ∧ pz_ht (2 ^ b) (gq_hh b) [] s'
set_option maxHeartbeats 4000000 in
set_option maxRecDepth 100000 in
/-- no states -/
theorem c_G_dropAll (l : Launch) (D : va_G) (q : wz_Q) (ag : Nat → Nat) (mr n b : Nat) (rl : Nat → Nat) (st sl : Nat → Int32) (G : List Nat) (sf : Nat → Nat) (hn : n ≤ 8) (hb0 : 0 < b) (hb30 : b ≤ 30) (hM : pz_fact n < 2 ^ b) (hst : ∀ i x, G[i]? = some x → st i = nI x) (hsl : ∀ j, j < 2 ^ b → sl j = nI (sf j)) (ht : pz_ht (2 ^ b) (gq_hh b) G sf) (hG : G.length ≤ pz_fact n) (hx24 : ∀ x, x ∈ G → x < 2 ^ 24) (hnd : G.Nodup) : wz_Mv l y_G_dropAll ws_G_dropAll ({ frames := 1, cells := 0, slots := 0, locals := 24 } : Room) D q ([.ref (ag 0)] : List Value) [gq_W q ag mr (pz_fact n) (2 ^ b) (32 - b) rl st sl G.length] (po_G_dropAll q ag mr n b rl st sl G sf) 0 0 := by
  intro sz9
  refine wz_enter (cc := b_G_dropAll) (maxL := 2) (ret := none) (Qc := fun A => (va_Qv (po_G_dropAll q ag mr n b rl st sl G sf) (wz_At D q A) A)) (by decide) (Nat.le_of_ble_eq_true rfl) ?_
  intro p e s m below meth c A ls C hP hD hS hl
  obtain ⟨hx, hb, hr, hml, hlocks, hown, hts, hN, hK, hA, hnm⟩ := C
  have hown : s.vm.findClass "TwoEndSearch$Graph" = some m.cls := hown
  have hl : lv_has ls 2 [(0, .ref (ag 0))] := hl
  have hp31 := gq_p31 hb30
  have hfl := pz_fact_le hn
  have hp0 : 0 < 2 ^ b := Nat.pow_pos (by decide)
  refine lv_aload_n hx hb d_G_dropAll_0 rfl (lv_at hl 0 rfl) ?_
  refine wz_get (v := .int (nI G.length)) (T := T_G) (N := 6) hx hb hts i_G hown hK hP 0 0 rfl rfl rfl 5 (by decide) (hts _ kw_194) rfl rfl d_G_dropAll_1 ?_
  refine lv_iconst (v := nI 1) hx hb d_G_dropAll_4 (by decide) ?_
  refine lv_isub hx hb d_G_dropAll_5 ?_
  refine lv_istore_n (lv' := [(1, .int ((nI G.length) - (nI 1))), (0, .ref (ag 0))]) hx hb d_G_dropAll_6 rfl hl (by decide) rfl (fun ls hl => ?_)
  have loop : ∀ (d : Nat) (i : Nat) (sl1 : Nat → Int32) (s1 : Nat → Nat), i ≤ G.length → i < d → (∀ j, j < 2 ^ b → sl1 j = nI (s1 j)) → pz_ht (2 ^ b) (gq_hh b) (G.take i) s1 → ∀ (H : Heap) (locs : List Loc) (ls : Array Slot), va_P D vwCl ([gq_W q ag mr (pz_fact n) (2 ^ b) (32 - b) rl st sl1 G.length] : wz_G).flatten H → va_D A ([gq_W q ag mr (pz_fact n) (2 ^ b) (32 - b) rl st sl1 G.length] : wz_G).flatten → va_S A s.heap H locs → lv_has ls 2 [(0, .ref (ag 0)), (1, .int (nI i - nI 1))] → W p l e ({ frames := 1, cells := 0, slots := 0, locals := 24 } : Room) s m ([.ref (ag 0)] : List Value).toArray below meth c H locs 0 0 (MQ below (va_Qv (po_G_dropAll q ag mr n b rl st sl G sf) (wz_At D q A) A) ([.ref (ag 0)] : List Value).toArray s 0 0 A) (F0 m 7 ls []) := by
    intro d
    induction d with
    | zero =>
      intro i sl1 s1 hi hd h1 h2
      omega
    | succ d ih =>
      intro i sl1 s1 hi hd h1 h2 H locs ls hP hD hS hl
      refine lv_iload_n hx hb d_G_dropAll_7 rfl (lv_at hl 1 rfl) ?_
      refine lv_if_lt (tgt := 33) hx hb d_G_dropAll_8 (by decide) (fun hc => ?_) (fun hc => ?_)
      · skip
        have hi0 : i = 0 := by
          by_cases e0 : i = 0
          · exact e0
          · rw [pk_sub (by omega)] at hc
            exact absurd hc (nI_pos (by omega))
        subst hi0
        refine lv_aload_n hx hb d_G_dropAll_33 rfl (lv_at hl 0 rfl) ?_
        refine lv_iconst (v := nI 0) hx hb d_G_dropAll_34 (by decide) ?_
        refine wz_put (gs' := [gq_W q ag mr (pz_fact n) (2 ^ b) (32 - b) rl st sl1 0]) (v := .int (nI 0)) (T := T_G) (N := 6) hx hb hts i_G t_G t_G_ok n_G hown hK hP hD hS 0 0 rfl rfl rfl 5 (by decide) (hts _ kw_194) rfl rfl (ty := t_G 5) (by decide +kernel) rfl rfl (Nat.le_of_ble_eq_true rfl) d_G_dropAll_35 rfl (fun H locs hP hD hS => ?_)
        exact wz_vret hx hb hr hlocks hK hP hD hS d_G_dropAll_38 ⟨sl1, s1, rfl, h1, by rw [List.take_zero] at h2; exact h2⟩
      · skip
        have hi0 : i ≠ 0 := fun e0 => hc (by rw [e0]; decide)
        obtain ⟨i2, rfl⟩ : ∃ i2, i = i2 + 1 := ⟨i - 1, by omega⟩
        have hil : i2 < G.length := by omega
        obtain ⟨x, hgx⟩ : ∃ x, G[i2]? = some x := ⟨_, List.getElem?_eq_getElem hil⟩
        have htk : G.take (i2 + 1) = G.take i2 ++ [x] := by rw [List.take_succ, hgx]; rfl
        have hnd2 : (G.take (i2 + 1)).Nodup := (List.take_sublist _ _).nodup hnd
        have hgt : (G.take (i2 + 1))[i2]? = some x := by rw [List.getElem?_take_of_lt (by omega)]; exact hgx
        have hlen : (G.take i2).length = i2 := by rw [List.length_take]; omega
        refine lv_aload_n hx hb d_G_dropAll_11 rfl (lv_at hl 0 rfl) ?_
        refine wz_get (v := .ref (ag 2)) (T := T_G) (N := 6) hx hb hts i_G hown hK hP 0 0 rfl rfl rfl 2 (by decide) (hts _ kw_191) rfl rfl d_G_dropAll_12 ?_
        refine lv_aload_n hx hb d_G_dropAll_15 rfl (lv_at hl 0 rfl) ?_
        refine lv_aload_n hx hb d_G_dropAll_16 rfl (lv_at hl 0 rfl) ?_
        refine wz_get (v := .ref (ag 1)) (T := T_G) (N := 6) hx hb hts i_G hown hK hP 0 0 rfl rfl rfl 1 (by decide) (hts _ kw_190) rfl rfl d_G_dropAll_17 ?_
        refine lv_iload_n hx hb d_G_dropAll_20 rfl (lv_at hl 1 rfl) ?_
        refine wz_topi (y := nI i2) (pk_sub (by omega)) ?_
        refine wz_iald hx hb hK hP 0 1 (j := i2) rfl rfl (by omega) (by omega) d_G_dropAll_21 ?_
        refine wz_topi (y := nI x) (hst i2 x hgx) ?_
        have hQ := wz_split (n := 1) (gc := [gq_W q ag mr (pz_fact n) (2 ^ b) (32 - b) rl st sl1 G.length]) (gr := []) [0] [] rfl (by decide) rfl rfl hP hD
        refine wz_calli (va_runV (As := [.int (nI x)]) (rest := [.ref (ag 2)]) ⟨hx, hb, hml, hown, hts⟩ (c_G_slotOf l D q ag mr n b G.length rl st sl1 (G.take (i2 + 1)) s1 x hn hb0 hb30 hM (fun i z hz => hst i z (by have hz1 := (List.getElem?_eq_some_iff.mp hz).1; rw [List.length_take] at hz1; rw [List.getElem?_take_of_lt (by omega)] at hz; exact hz)) h1 h2 (by rw [List.length_take]; omega) (hx24 x (List.mem_of_getElem? hgx)) (fun z hz => hx24 z (List.mem_of_mem_take hz)) _) (cwV 1 hts (wz_goodV kw_310 kw_312 kw_6 kw_35 kw_313) rfl rfl rfl (by decide +kernel) ⟨Nat.le_of_ble_eq_true rfl, Nat.le_of_ble_eq_true rfl⟩) (wz_preV (gi := 0) (k := 0) hN hK hQ wz_L_ok rfl rfl rfl) rfl rfl hl.1 rfl (lv_room (Nat.le_of_ble_eq_true rfl)) d_G_dropAll_22 ⟨Nat.le_of_ble_eq_true rfl, Nat.le_of_ble_eq_true rfl⟩) hQ hS hA (fun v_22 gx H locs hp hP hD hS => ?_)
        obtain ⟨rfl, j, hj, rfl, hstop, hleast⟩ := hp
        obtain ⟨hP, hD⟩ := wz_ord (n := 1) (gs' := [gq_W q ag mr (pz_fact n) (2 ^ b) (32 - b) rl st sl1 G.length]) [0] rfl (by decide) rfl hP hD
        have hk9 : ((gq_hh b x + j) % 2 ^ b) < 2 ^ b := Nat.mod_lt _ hp0
        have hin := pz_ht_in h2 hnd2 hp0 hgt hstop hleast
        refine lv_iconst (v := nI 0) hx hb d_G_dropAll_25 (by decide) ?_
        refine wz_iast (gs' := [gq_W q ag mr (pz_fact n) (2 ^ b) (32 - b) rl st (upd sl1 ((gq_hh b x + j) % 2 ^ b) (nI 0)) G.length]) hx hb hK hP hD hS 0 2 (j := ((gq_hh b x + j) % 2 ^ b)) rfl rfl (by omega) (by omega) d_G_dropAll_26 rfl (fun H locs hP hD hS => ?_)
        refine lv_iinc (v := (nI i2 - nI 1)) (lv' := [(1, .int (nI i2 - nI 1)), (0, .ref (ag 0))]) hx hb d_G_dropAll_27 hl (k := 1) rfl (gq_dec i2) (by decide) rfl (fun ls hl => ?_)
        refine lv_goto (tgt := 7) hx hb d_G_dropAll_30 (by decide) ?_
        exact ih i2 (upd sl1 ((gq_hh b x + j) % 2 ^ b) (nI 0)) (pz_up s1 ((gq_hh b x + j) % 2 ^ b) 0) (by omega) (by omega) (fun j9 hj9 => by
          by_cases e0 : j9 = ((gq_hh b x + j) % 2 ^ b)
          · subst e0; rw [pk_us, pz_up_s]
          · rw [pk_un e0, pz_up_n _ _ e0]; exact h1 j9 hj9) (by rw [htk] at h2; exact pz_ht_drop h2 hk9 (by rw [hlen]; exact hin) hp0) _ _ _ hP hD hS (lv_sub hl [1, 0] rfl)
  exact loop (G.length + 1) G.length sl sf (by omega) (by omega) hsl (by rw [List.take_length]; exact ht) _ _ _ hP hD hS (lv_sub hl [1, 0] rfl)
end
section
/-! MODULE Ball -/
def bl_W (q : wz_Q) (a : Nat → Nat) (mr : Nat) (gr : Nat) (fw : Nat) (cap : Nat) (fa : Nat → Int32) (wy : Nat → Int64) (re : Nat → Int32) (sz : Nat) (ly : Nat) (dp : Nat) (me : Int32) (cm : Int32) : va_W := [(a 0, .inr (2, [.ref mr, .ref gr, .int (nI fw), .ref (a 1), .ref (a 2), .ref (a 3), .int (nI sz), .int (nI ly), .int (nI dp), .int me, .int cm])), (a 1, .inl (q.1, cap, .inl fa)), (a 2, .inl (q.2.1, cap, .inr (.inl wy))), (a 3, .inl (q.1, cap, .inl re))]
theorem bl_gt_no {e d : Nat} (h : e < d) (hd : d < 2 ^ 31) : ¬ nI d - nI 1 < nI e := by
  rw [pk_sub (by omega)]
  exact nI_nlt (by omega) (by omega)
theorem bl_gt {e d : Nat} (h : d ≤ e) (hd : d < 2 ^ 31) (he : e < 2 ^ 30) : nI d - nI 1 < nI e := by
  by_cases q : d = 0
  · subst q
    have h1 : nI 0 - nI 1 = -1 := by decide
    rw [h1]
    have h2 : 0 ≤ nI e := nI_pos' (by omega)
    exact Int32.lt_of_lt_of_le (by decide) h2
  · rw [pk_sub (by omega)]
    exact nI_lt (by omega) (by omega)
theorem d_B_take_0 : decode b_B_take 0 = .ok (.aload_n 0, 1) := by decide +kernel
theorem d_B_take_1 : decode b_B_take 1 = .ok (.getfield 26, 3) := by decide +kernel
theorem d_B_take_4 : decode b_B_take 4 = .ok (.iload_n 1, 1) := by decide +kernel
theorem d_B_take_5 : decode b_B_take 5 = .ok (.iload_n 2, 1) := by decide +kernel
theorem d_B_take_6 : decode b_B_take 6 = .ok (.iastore, 1) := by decide +kernel
theorem d_B_take_7 : decode b_B_take 7 = .ok (.aload_n 0, 1) := by decide +kernel
theorem d_B_take_8 : decode b_B_take 8 = .ok (.getfield 36, 3) := by decide +kernel
theorem d_B_take_11 : decode b_B_take 11 = .ok (.iload_n 1, 1) := by decide +kernel
theorem d_B_take_12 : decode b_B_take 12 = .ok (.lconst 0, 1) := by decide +kernel
theorem d_B_take_13 : decode b_B_take 13 = .ok (.lastore, 1) := by decide +kernel
theorem d_B_take_14 : decode b_B_take 14 = .ok (.aload_n 0, 1) := by decide +kernel
theorem d_B_take_15 : decode b_B_take 15 = .ok (.getfield 40, 3) := by decide +kernel
theorem d_B_take_18 : decode b_B_take 18 = .ok (.aload_n 0, 1) := by decide +kernel
theorem d_B_take_19 : decode b_B_take 19 = .ok (.getfield 43, 3) := by decide +kernel
theorem d_B_take_22 : decode b_B_take 22 = .ok (.iload_n 1, 1) := by decide +kernel
theorem d_B_take_23 : decode b_B_take 23 = .ok (.iastore, 1) := by decide +kernel
theorem d_B_take_24 : decode b_B_take 24 = .ok (.aload_n 0, 1) := by decide +kernel
theorem d_B_take_25 : decode b_B_take 25 = .ok (.dup, 1) := by decide +kernel
theorem d_B_take_26 : decode b_B_take 26 = .ok (.getfield 43, 3) := by decide +kernel
theorem d_B_take_29 : decode b_B_take 29 = .ok (.iconst 1, 1) := by decide +kernel
theorem d_B_take_30 : decode b_B_take 30 = .ok (.iadd, 1) := by decide +kernel
theorem d_B_take_31 : decode b_B_take 31 = .ok (.putfield 43, 3) := by decide +kernel
theorem d_B_take_34 : decode b_B_take 34 = .ok (.return_, 1) := by decide +kernel
theorem d_B_begin_0 : decode b_B_begin 0 = .ok (.iconst 0, 1) := by decide +kernel
theorem d_B_begin_1 : decode b_B_begin 1 = .ok (.istore_n 3, 1) := by decide +kernel
theorem d_B_begin_2 : decode b_B_begin 2 = .ok (.iload_n 3, 1) := by decide +kernel
theorem d_B_begin_3 : decode b_B_begin 3 = .ok (.aload_n 0, 1) := by decide +kernel
theorem d_B_begin_4 : decode b_B_begin 4 = .ok (.getfield 43, 3) := by decide +kernel
theorem d_B_begin_7 : decode b_B_begin 7 = .ok (.if_icmp .ge 21, 3) := by decide +kernel
theorem d_B_begin_10 : decode b_B_begin 10 = .ok (.aload_n 0, 1) := by decide +kernel
theorem d_B_begin_11 : decode b_B_begin 11 = .ok (.getfield 26, 3) := by decide +kernel
theorem d_B_begin_14 : decode b_B_begin 14 = .ok (.aload_n 0, 1) := by decide +kernel
theorem d_B_begin_15 : decode b_B_begin 15 = .ok (.getfield 40, 3) := by decide +kernel
theorem d_B_begin_18 : decode b_B_begin 18 = .ok (.iload_n 3, 1) := by decide +kernel
theorem d_B_begin_19 : decode b_B_begin 19 = .ok (.iaload, 1) := by decide +kernel
theorem d_B_begin_20 : decode b_B_begin 20 = .ok (.iconst (-1), 1) := by decide +kernel
theorem d_B_begin_21 : decode b_B_begin 21 = .ok (.iastore, 1) := by decide +kernel
theorem d_B_begin_22 : decode b_B_begin 22 = .ok (.iinc 3 1, 3) := by decide +kernel
theorem d_B_begin_25 : decode b_B_begin 25 = .ok (.goto (-23), 3) := by decide +kernel
theorem d_B_begin_28 : decode b_B_begin 28 = .ok (.aload_n 0, 1) := by decide +kernel
theorem d_B_begin_29 : decode b_B_begin 29 = .ok (.iload_n 2, 1) := by decide +kernel
theorem d_B_begin_30 : decode b_B_begin 30 = .ok (.putfield 46, 3) := by decide +kernel
theorem d_B_begin_33 : decode b_B_begin 33 = .ok (.aload_n 0, 1) := by decide +kernel
theorem d_B_begin_34 : decode b_B_begin 34 = .ok (.iconst 0, 1) := by decide +kernel
theorem d_B_begin_35 : decode b_B_begin 35 = .ok (.putfield 43, 3) := by decide +kernel
theorem d_B_begin_38 : decode b_B_begin 38 = .ok (.aload_n 0, 1) := by decide +kernel
theorem d_B_begin_39 : decode b_B_begin 39 = .ok (.iconst 0, 1) := by decide +kernel
theorem d_B_begin_40 : decode b_B_begin 40 = .ok (.putfield 49, 3) := by decide +kernel
theorem d_B_begin_43 : decode b_B_begin 43 = .ok (.aload_n 0, 1) := by decide +kernel
theorem d_B_begin_44 : decode b_B_begin 44 = .ok (.iconst 0, 1) := by decide +kernel
theorem d_B_begin_45 : decode b_B_begin 45 = .ok (.putfield 52, 3) := by decide +kernel
theorem d_B_begin_48 : decode b_B_begin 48 = .ok (.aload_n 0, 1) := by decide +kernel
theorem d_B_begin_49 : decode b_B_begin 49 = .ok (.iconst 0, 1) := by decide +kernel
theorem d_B_begin_50 : decode b_B_begin 50 = .ok (.putfield 55, 3) := by decide +kernel
theorem d_B_begin_53 : decode b_B_begin 53 = .ok (.aload_n 0, 1) := by decide +kernel
theorem d_B_begin_54 : decode b_B_begin 54 = .ok (.iload_n 1, 1) := by decide +kernel
theorem d_B_begin_55 : decode b_B_begin 55 = .ok (.iconst 0, 1) := by decide +kernel
theorem d_B_begin_56 : decode b_B_begin 56 = .ok (.invokevirtual 59, 3) := by decide +kernel
theorem d_B_begin_59 : decode b_B_begin 59 = .ok (.aload_n 0, 1) := by decide +kernel
theorem d_B_begin_60 : decode b_B_begin 60 = .ok (.getfield 36, 3) := by decide +kernel
theorem d_B_begin_63 : decode b_B_begin 63 = .ok (.iload_n 1, 1) := by decide +kernel
theorem d_B_begin_64 : decode b_B_begin 64 = .ok (.lconst 1, 1) := by decide +kernel
theorem d_B_begin_65 : decode b_B_begin 65 = .ok (.lastore, 1) := by decide +kernel
theorem d_B_begin_66 : decode b_B_begin 66 = .ok (.return_, 1) := by decide +kernel
theorem d_B_sizeOfLastLayer_0 : decode b_B_sizeOfLastLayer 0 = .ok (.aload_n 0, 1) := by decide +kernel
theorem d_B_sizeOfLastLayer_1 : decode b_B_sizeOfLastLayer 1 = .ok (.getfield 43, 3) := by decide +kernel
theorem d_B_sizeOfLastLayer_4 : decode b_B_sizeOfLastLayer 4 = .ok (.aload_n 0, 1) := by decide +kernel
theorem d_B_sizeOfLastLayer_5 : decode b_B_sizeOfLastLayer 5 = .ok (.getfield 49, 3) := by decide +kernel
theorem d_B_sizeOfLastLayer_8 : decode b_B_sizeOfLastLayer 8 = .ok (.isub, 1) := by decide +kernel
theorem d_B_sizeOfLastLayer_9 : decode b_B_sizeOfLastLayer 9 = .ok (.ireturn, 1) := by decide +kernel
theorem d_B_lastLayerMeets_0 : decode b_B_lastLayerMeets 0 = .ok (.aload_n 0, 1) := by decide +kernel
theorem d_B_lastLayerMeets_1 : decode b_B_lastLayerMeets 1 = .ok (.getfield 49, 3) := by decide +kernel
theorem d_B_lastLayerMeets_4 : decode b_B_lastLayerMeets 4 = .ok (.istore_n 2, 1) := by decide +kernel
theorem d_B_lastLayerMeets_5 : decode b_B_lastLayerMeets 5 = .ok (.iload_n 2, 1) := by decide +kernel
theorem d_B_lastLayerMeets_6 : decode b_B_lastLayerMeets 6 = .ok (.aload_n 0, 1) := by decide +kernel
theorem d_B_lastLayerMeets_7 : decode b_B_lastLayerMeets 7 = .ok (.getfield 43, 3) := by decide +kernel
theorem d_B_lastLayerMeets_10 : decode b_B_lastLayerMeets 10 = .ok (.if_icmp .ge 26, 3) := by decide +kernel
theorem d_B_lastLayerMeets_13 : decode b_B_lastLayerMeets 13 = .ok (.aload_n 1, 1) := by decide +kernel
theorem d_B_lastLayerMeets_14 : decode b_B_lastLayerMeets 14 = .ok (.getfield 26, 3) := by decide +kernel
theorem d_B_lastLayerMeets_17 : decode b_B_lastLayerMeets 17 = .ok (.aload_n 0, 1) := by decide +kernel
theorem d_B_lastLayerMeets_18 : decode b_B_lastLayerMeets 18 = .ok (.getfield 40, 3) := by decide +kernel
theorem d_B_lastLayerMeets_21 : decode b_B_lastLayerMeets 21 = .ok (.iload_n 2, 1) := by decide +kernel
theorem d_B_lastLayerMeets_22 : decode b_B_lastLayerMeets 22 = .ok (.iaload, 1) := by decide +kernel
theorem d_B_lastLayerMeets_23 : decode b_B_lastLayerMeets 23 = .ok (.iaload, 1) := by decide +kernel
theorem d_B_lastLayerMeets_24 : decode b_B_lastLayerMeets 24 = .ok (.iconst (-1), 1) := by decide +kernel
theorem d_B_lastLayerMeets_25 : decode b_B_lastLayerMeets 25 = .ok (.if_icmp .eq 5, 3) := by decide +kernel
theorem d_B_lastLayerMeets_28 : decode b_B_lastLayerMeets 28 = .ok (.iconst 1, 1) := by decide +kernel
theorem d_B_lastLayerMeets_29 : decode b_B_lastLayerMeets 29 = .ok (.ireturn, 1) := by decide +kernel
theorem d_B_lastLayerMeets_30 : decode b_B_lastLayerMeets 30 = .ok (.iinc 2 1, 3) := by decide +kernel
theorem d_B_lastLayerMeets_33 : decode b_B_lastLayerMeets 33 = .ok (.goto (-28), 3) := by decide +kernel
theorem d_B_lastLayerMeets_36 : decode b_B_lastLayerMeets 36 = .ok (.iconst 0, 1) := by decide +kernel
theorem d_B_lastLayerMeets_37 : decode b_B_lastLayerMeets 37 = .ok (.ireturn, 1) := by decide +kernel
theorem d_B_countWithin_0 : decode b_B_countWithin 0 = .ok (.iconst 0, 1) := by decide +kernel
theorem d_B_countWithin_1 : decode b_B_countWithin 1 = .ok (.istore_n 2, 1) := by decide +kernel
theorem d_B_countWithin_2 : decode b_B_countWithin 2 = .ok (.ldc 90, 2) := by decide +kernel
theorem d_B_countWithin_4 : decode b_B_countWithin 4 = .ok (.istore_n 3, 1) := by decide +kernel
theorem d_B_countWithin_5 : decode b_B_countWithin 5 = .ok (.iload_n 3, 1) := by decide +kernel
theorem d_B_countWithin_6 : decode b_B_countWithin 6 = .ok (.ifCond .le 46, 3) := by decide +kernel
theorem d_B_countWithin_9 : decode b_B_countWithin 9 = .ok (.iload_n 2, 1) := by decide +kernel
theorem d_B_countWithin_10 : decode b_B_countWithin 10 = .ok (.iload_n 3, 1) := by decide +kernel
theorem d_B_countWithin_11 : decode b_B_countWithin 11 = .ok (.iadd, 1) := by decide +kernel
theorem d_B_countWithin_12 : decode b_B_countWithin 12 = .ok (.iconst 1, 1) := by decide +kernel
theorem d_B_countWithin_13 : decode b_B_countWithin 13 = .ok (.isub, 1) := by decide +kernel
theorem d_B_countWithin_14 : decode b_B_countWithin 14 = .ok (.istore 4, 2) := by decide +kernel
theorem d_B_countWithin_16 : decode b_B_countWithin 16 = .ok (.iload 4, 2) := by decide +kernel
theorem d_B_countWithin_18 : decode b_B_countWithin 18 = .ok (.aload_n 0, 1) := by decide +kernel
theorem d_B_countWithin_19 : decode b_B_countWithin 19 = .ok (.getfield 43, 3) := by decide +kernel
theorem d_B_countWithin_22 : decode b_B_countWithin 22 = .ok (.if_icmp .ge 23, 3) := by decide +kernel
theorem d_B_countWithin_25 : decode b_B_countWithin 25 = .ok (.aload_n 0, 1) := by decide +kernel
theorem d_B_countWithin_26 : decode b_B_countWithin 26 = .ok (.getfield 26, 3) := by decide +kernel
theorem d_B_countWithin_29 : decode b_B_countWithin 29 = .ok (.aload_n 0, 1) := by decide +kernel
theorem d_B_countWithin_30 : decode b_B_countWithin 30 = .ok (.getfield 40, 3) := by decide +kernel
theorem d_B_countWithin_33 : decode b_B_countWithin 33 = .ok (.iload 4, 2) := by decide +kernel
theorem d_B_countWithin_35 : decode b_B_countWithin 35 = .ok (.iaload, 1) := by decide +kernel
theorem d_B_countWithin_36 : decode b_B_countWithin 36 = .ok (.iaload, 1) := by decide +kernel
theorem d_B_countWithin_37 : decode b_B_countWithin 37 = .ok (.iload_n 1, 1) := by decide +kernel
theorem d_B_countWithin_38 : decode b_B_countWithin 38 = .ok (.if_icmp .gt 7, 3) := by decide +kernel
theorem d_B_countWithin_41 : decode b_B_countWithin 41 = .ok (.iload_n 2, 1) := by decide +kernel
theorem d_B_countWithin_42 : decode b_B_countWithin 42 = .ok (.iload_n 3, 1) := by decide +kernel
theorem d_B_countWithin_43 : decode b_B_countWithin 43 = .ok (.iadd, 1) := by decide +kernel
theorem d_B_countWithin_44 : decode b_B_countWithin 44 = .ok (.istore_n 2, 1) := by decide +kernel
theorem d_B_countWithin_45 : decode b_B_countWithin 45 = .ok (.iload_n 3, 1) := by decide +kernel
theorem d_B_countWithin_46 : decode b_B_countWithin 46 = .ok (.iconst 1, 1) := by decide +kernel
theorem d_B_countWithin_47 : decode b_B_countWithin 47 = .ok (.ishr, 1) := by decide +kernel
theorem d_B_countWithin_48 : decode b_B_countWithin 48 = .ok (.istore_n 3, 1) := by decide +kernel
theorem d_B_countWithin_49 : decode b_B_countWithin 49 = .ok (.goto (-44), 3) := by decide +kernel
theorem d_B_countWithin_52 : decode b_B_countWithin 52 = .ok (.iload_n 2, 1) := by decide +kernel
theorem d_B_countWithin_53 : decode b_B_countWithin 53 = .ok (.ireturn, 1) := by decide +kernel
theorem kw_36 : (Cond.initialized "TwoEndSearch$Ball" : Cond) ∈ bigW := bigW_of 36 (by decide +kernel) (by decide +kernel)
theorem kw_220 : (Cond.fieldLink "TwoEndSearch$Ball" 26 "TwoEndSearch$Ball" "far" "[I" : Cond) ∈ bigW := bigW_of 220 (by decide +kernel) (by decide +kernel)
theorem kw_222 : (Cond.fieldLink "TwoEndSearch$Ball" 36 "TwoEndSearch$Ball" "ways" "[J" : Cond) ∈ bigW := bigW_of 222 (by decide +kernel) (by decide +kernel)
theorem kw_224 : (Cond.fieldLink "TwoEndSearch$Ball" 40 "TwoEndSearch$Ball" "reached" "[I" : Cond) ∈ bigW := bigW_of 224 (by decide +kernel) (by decide +kernel)
theorem kw_226 : (Cond.fieldLink "TwoEndSearch$Ball" 43 "TwoEndSearch$Ball" "size" "I" : Cond) ∈ bigW := bigW_of 226 (by decide +kernel) (by decide +kernel)
theorem kw_228 : (Cond.fieldLink "TwoEndSearch$Ball" 49 "TwoEndSearch$Ball" "layerStart" "I" : Cond) ∈ bigW := bigW_of 228 (by decide +kernel) (by decide +kernel)
theorem kw_230 : (Cond.fieldLink "TwoEndSearch$Ball" 52 "TwoEndSearch$Ball" "depth" "I" : Cond) ∈ bigW := bigW_of 230 (by decide +kernel) (by decide +kernel)
theorem kw_233 : (Cond.fieldLink "TwoEndSearch$Ball" 46 "TwoEndSearch$Ball" "measure" "I" : Cond) ∈ bigW := bigW_of 233 (by decide +kernel) (by decide +kernel)
theorem kw_235 : (Cond.fieldLink "TwoEndSearch$Ball" 55 "TwoEndSearch$Ball" "complete" "Z" : Cond) ∈ bigW := bigW_of 235 (by decide +kernel) (by decide +kernel)
theorem kw_323 : (Cond.methodLink "TwoEndSearch$Ball" 59 ⟨"TwoEndSearch$Ball", "take", "(II)V"⟩ : Cond) ∈ bigW := bigW_of 323 (by decide +kernel) (by decide +kernel)
theorem kw_324 : (Cond.instanceMethod ⟨"TwoEndSearch$Ball", "take", "(II)V"⟩ : Cond) ∈ bigW := bigW_of 324 (by decide +kernel) (by decide +kernel)
theorem kw_325 : (Cond.selects "TwoEndSearch$Ball" ⟨"TwoEndSearch$Ball", "take", "(II)V"⟩ ⟨"TwoEndSearch$Ball", "take", "(II)V"⟩ : Cond) ∈ bigW := bigW_of 325 (by decide +kernel) (by decide +kernel)
theorem kw_326 : (Cond.code ⟨"TwoEndSearch$Ball", "take", "(II)V"⟩ prog_2_method_3_code 3 none : Cond) ∈ bigW := bigW_of 326 (by decide +kernel) (by decide +kernel)
theorem kw_422 : (Cond.constant "TwoEndSearch$Ball" 90 32768 : Cond) ∈ bigW := bigW_of 422 (by decide +kernel) (by decide +kernel)
def po_B_take (q : wz_Q) (ab : Nat → Nat) (mr gr fw cap : Nat) (fa : Nat → Int32) (wy : Nat → Int64) (re : Nat → Int32) (sz ly dp : Nat) (me cm : Int32) (i d : Nat) : wz_G → Prop := fun w => w = [bl_W q ab mr gr fw cap (upd fa i (nI d)) (vp_updL wy i 0) (upd re sz (nI i)) (sz + 1) ly dp me cm]
set_option maxHeartbeats 4000000 in
set_option maxRecDepth 100000 in
/-- a state comes into the ball -/
theorem c_B_take (l : Launch) (D : va_G) (q : wz_Q) (ab : Nat → Nat) (mr gr fw cap : Nat) (fa : Nat → Int32) (wy : Nat → Int64) (re : Nat → Int32) (sz ly dp : Nat) (me cm : Int32) (i d : Nat) (hcap : cap < 2 ^ 31) (hi : i < cap) (hsz : sz < cap) : wz_Mv l y_B_take ws_B_take ({ frames := 0, cells := 0, slots := 0, locals := 0 } : Room) D q ([.ref (ab 0), .int (nI i), .int (nI d)] : List Value) [bl_W q ab mr gr fw cap fa wy re sz ly dp me cm] (po_B_take q ab mr gr fw cap fa wy re sz ly dp me cm i d) 0 0 := by
  intro sz9
  refine wz_enter (cc := b_B_take) (maxL := 3) (ret := none) (Qc := fun A => (va_Qv (po_B_take q ab mr gr fw cap fa wy re sz ly dp me cm i d) (wz_At D q A) A)) (by decide) (Nat.le_of_ble_eq_true rfl) ?_
  intro p e s m below meth c A ls C hP hD hS hl
  obtain ⟨hx, hb, hr, hml, hlocks, hown, hts, hN, hK, hA, hnm⟩ := C
  have hown : s.vm.findClass "TwoEndSearch$Ball" = some m.cls := hown
  have hl : lv_has ls 3 [(0, .ref (ab 0)), (1, .int (nI i)), (2, .int (nI d))] := hl
  refine lv_aload_n hx hb d_B_take_0 rfl (lv_at hl 0 rfl) ?_
  refine wz_get (v := .ref (ab 1)) (T := T_B) (N := 11) hx hb hts i_B hown hK hP 0 0 rfl rfl rfl 3 (by decide) (hts _ kw_220) rfl rfl d_B_take_1 ?_
  refine lv_iload_n hx hb d_B_take_4 rfl (lv_at hl 1 rfl) ?_
  refine lv_iload_n hx hb d_B_take_5 rfl (lv_at hl 2 rfl) ?_
  refine wz_iast (gs' := [bl_W q ab mr gr fw cap (upd fa i (nI d)) wy re sz ly dp me cm]) hx hb hK hP hD hS 0 1 (j := i) rfl rfl (by omega) (by omega) d_B_take_6 rfl (fun H locs hP hD hS => ?_)
  refine lv_aload_n hx hb d_B_take_7 rfl (lv_at hl 0 rfl) ?_
  refine wz_get (v := .ref (ab 2)) (T := T_B) (N := 11) hx hb hts i_B hown hK hP 0 0 rfl rfl rfl 4 (by decide) (hts _ kw_222) rfl rfl d_B_take_8 ?_
  refine lv_iload_n hx hb d_B_take_11 rfl (lv_at hl 1 rfl) ?_
  refine lv_lconst (v := 0) hx hb d_B_take_12 rfl ?_
  refine wz_last (gs' := [bl_W q ab mr gr fw cap (upd fa i (nI d)) (vp_updL wy i 0) re sz ly dp me cm]) hx hb hK hP hD hS 0 2 (j := i) rfl rfl (by omega) (by omega) d_B_take_13 rfl (fun H locs hP hD hS => ?_)
  refine lv_aload_n hx hb d_B_take_14 rfl (lv_at hl 0 rfl) ?_
  refine wz_get (v := .ref (ab 3)) (T := T_B) (N := 11) hx hb hts i_B hown hK hP 0 0 rfl rfl rfl 5 (by decide) (hts _ kw_224) rfl rfl d_B_take_15 ?_
  refine lv_aload_n hx hb d_B_take_18 rfl (lv_at hl 0 rfl) ?_
  refine wz_get (v := .int (nI sz)) (T := T_B) (N := 11) hx hb hts i_B hown hK hP 0 0 rfl rfl rfl 6 (by decide) (hts _ kw_226) rfl rfl d_B_take_19 ?_
  refine lv_iload_n hx hb d_B_take_22 rfl (lv_at hl 1 rfl) ?_
  refine wz_iast (gs' := [bl_W q ab mr gr fw cap (upd fa i (nI d)) (vp_updL wy i 0) (upd re sz (nI i)) sz ly dp me cm]) hx hb hK hP hD hS 0 3 (j := sz) rfl rfl (by omega) (by omega) d_B_take_23 rfl (fun H locs hP hD hS => ?_)
  refine lv_aload_n hx hb d_B_take_24 rfl (lv_at hl 0 rfl) ?_
  refine lv_dup hx hb d_B_take_25 rfl ?_
  refine wz_get (v := .int (nI sz)) (T := T_B) (N := 11) hx hb hts i_B hown hK hP 0 0 rfl rfl rfl 6 (by decide) (hts _ kw_226) rfl rfl d_B_take_26 ?_
  refine lv_iconst (v := nI 1) hx hb d_B_take_29 (by decide) ?_
  refine lv_iadd hx hb d_B_take_30 ?_
  refine wz_topi (y := nI (sz + 1)) (nI_add sz 1) ?_
  refine wz_put (gs' := [bl_W q ab mr gr fw cap (upd fa i (nI d)) (vp_updL wy i 0) (upd re sz (nI i)) (sz + 1) ly dp me cm]) (v := .int (nI (sz + 1))) (T := T_B) (N := 11) hx hb hts i_B t_B t_B_ok n_B hown hK hP hD hS 0 0 rfl rfl rfl 6 (by decide) (hts _ kw_226) rfl rfl (ty := t_B 6) (by decide +kernel) rfl rfl (Nat.le_of_ble_eq_true rfl) d_B_take_31 rfl (fun H locs hP hD hS => ?_)
  exact wz_vret hx hb hr hlocks hK hP hD hS d_B_take_34 rfl
def po_B_begin (q : wz_Q) (ab : Nat → Nat) (mr gr fw cap : Nat) (fa : Nat → Int32) (wy : Nat → Int64) (re : Nat → Int32) (sz ly dp : Nat) (me cm : Int32) (i : Nat) (me2 : Int32) : wz_G → Prop := fun w => ∃ f1 : Nat → Int32, (∀ j, j < cap → f1 j = -1) ∧ w = [bl_W q ab mr gr fw cap (upd f1 i (nI 0)) (vp_updL (vp_updL wy i 0) i 1) (upd re 0 (nI i)) 1 0 0 me2 (nI 0)]
set_option maxHeartbeats 4000000 in
set_option maxRecDepth 100000 in
/-- the ball is begun around a state -/
theorem c_B_begin (l : Launch) (D : va_G) (q : wz_Q) (ab : Nat → Nat) (mr gr fw cap : Nat) (fa : Nat → Int32) (wy : Nat → Int64) (re : Nat → Int32) (sz ly dp : Nat) (me cm : Int32) (i : Nat) (me2 : Int32) (hcap : cap < 2 ^ 31) (hi : i < cap) (hraw : bl_raw cap fa re sz) : wz_Mv l y_B_begin ws_B_begin ({ frames := 1, cells := 0, slots := 0, locals := 22 } : Room) D q ([.ref (ab 0), .int (nI i), .int me2] : List Value) [bl_W q ab mr gr fw cap fa wy re sz ly dp me cm] (po_B_begin q ab mr gr fw cap fa wy re sz ly dp me cm i me2) 0 0 := by
  intro sz9
  refine wz_enter (cc := b_B_begin) (maxL := 4) (ret := none) (Qc := fun A => (va_Qv (po_B_begin q ab mr gr fw cap fa wy re sz ly dp me cm i me2) (wz_At D q A) A)) (by decide) (Nat.le_of_ble_eq_true rfl) ?_
  intro p e s m below meth c A ls C hP hD hS hl
  obtain ⟨hx, hb, hr, hml, hlocks, hown, hts, hN, hK, hA, hnm⟩ := C
  have hown : s.vm.findClass "TwoEndSearch$Ball" = some m.cls := hown
  have hl : lv_has ls 4 [(0, .ref (ab 0)), (1, .int (nI i)), (2, .int me2)] := hl
  have hszc := hraw.1
  refine lv_iconst (v := nI 0) hx hb d_B_begin_0 (by decide) ?_
  refine lv_istore_n (lv' := [(3, .int (nI 0)), (0, .ref (ab 0)), (1, .int (nI i)), (2, .int me2)]) hx hb d_B_begin_1 rfl hl (by decide) rfl (fun ls hl => ?_)
  have loop : ∀ (d : Nat) (t : Nat) (f1 : Nat → Int32), t ≤ sz → sz + 1 ≤ t + d → (∀ j, j < cap → f1 j = -1 ∨ ∃ y, t ≤ y ∧ y < sz ∧ re y = nI j) → ∀ (H : Heap) (locs : List Loc) (ls : Array Slot), va_P D vwCl ([bl_W q ab mr gr fw cap f1 wy re sz ly dp me cm] : wz_G).flatten H → va_D A ([bl_W q ab mr gr fw cap f1 wy re sz ly dp me cm] : wz_G).flatten → va_S A s.heap H locs → lv_has ls 4 [(0, .ref (ab 0)), (1, .int (nI i)), (2, .int me2), (3, .int (nI t))] → W p l e ({ frames := 1, cells := 0, slots := 0, locals := 22 } : Room) s m ([.ref (ab 0), .int (nI i), .int me2] : List Value).toArray below meth c H locs 0 0 (MQ below (va_Qv (po_B_begin q ab mr gr fw cap fa wy re sz ly dp me cm i me2) (wz_At D q A) A) ([.ref (ab 0), .int (nI i), .int me2] : List Value).toArray s 0 0 A) (F0 m 2 ls []) := by
    intro d
    induction d with
    | zero =>
      intro t f1 ht hd h1
      omega
    | succ d ih =>
      intro t f1 ht hd h1 H locs ls hP hD hS hl
      refine lv_iload_n hx hb d_B_begin_2 rfl (lv_at hl 3 rfl) ?_
      refine lv_aload_n hx hb d_B_begin_3 rfl (lv_at hl 0 rfl) ?_
      refine wz_get (v := .int (nI sz)) (T := T_B) (N := 11) hx hb hts i_B hown hK hP 0 0 rfl rfl rfl 6 (by decide) (hts _ kw_226) rfl rfl d_B_begin_4 ?_
      refine wz_ge (tgt := 28) hx hb d_B_begin_7 (by decide) (by omega) (by omega) (fun hc => ?_) (fun hc => ?_)
      · skip
        refine lv_aload_n hx hb d_B_begin_28 rfl (lv_at hl 0 rfl) ?_
        refine lv_iload_n hx hb d_B_begin_29 rfl (lv_at hl 2 rfl) ?_
        refine wz_put (gs' := [bl_W q ab mr gr fw cap f1 wy re sz ly dp me2 cm]) (v := .int me2) (T := T_B) (N := 11) hx hb hts i_B t_B t_B_ok n_B hown hK hP hD hS 0 0 rfl rfl rfl 9 (by decide) (hts _ kw_233) rfl rfl (ty := t_B 9) (by decide +kernel) rfl rfl (Nat.le_of_ble_eq_true rfl) d_B_begin_30 rfl (fun H locs hP hD hS => ?_)
        refine lv_aload_n hx hb d_B_begin_33 rfl (lv_at hl 0 rfl) ?_
        refine lv_iconst (v := nI 0) hx hb d_B_begin_34 (by decide) ?_
        refine wz_put (gs' := [bl_W q ab mr gr fw cap f1 wy re 0 ly dp me2 cm]) (v := .int (nI 0)) (T := T_B) (N := 11) hx hb hts i_B t_B t_B_ok n_B hown hK hP hD hS 0 0 rfl rfl rfl 6 (by decide) (hts _ kw_226) rfl rfl (ty := t_B 6) (by decide +kernel) rfl rfl (Nat.le_of_ble_eq_true rfl) d_B_begin_35 rfl (fun H locs hP hD hS => ?_)
        refine lv_aload_n hx hb d_B_begin_38 rfl (lv_at hl 0 rfl) ?_
        refine lv_iconst (v := nI 0) hx hb d_B_begin_39 (by decide) ?_
        refine wz_put (gs' := [bl_W q ab mr gr fw cap f1 wy re 0 0 dp me2 cm]) (v := .int (nI 0)) (T := T_B) (N := 11) hx hb hts i_B t_B t_B_ok n_B hown hK hP hD hS 0 0 rfl rfl rfl 7 (by decide) (hts _ kw_228) rfl rfl (ty := t_B 7) (by decide +kernel) rfl rfl (Nat.le_of_ble_eq_true rfl) d_B_begin_40 rfl (fun H locs hP hD hS => ?_)
        refine lv_aload_n hx hb d_B_begin_43 rfl (lv_at hl 0 rfl) ?_
        refine lv_iconst (v := nI 0) hx hb d_B_begin_44 (by decide) ?_
        refine wz_put (gs' := [bl_W q ab mr gr fw cap f1 wy re 0 0 0 me2 cm]) (v := .int (nI 0)) (T := T_B) (N := 11) hx hb hts i_B t_B t_B_ok n_B hown hK hP hD hS 0 0 rfl rfl rfl 8 (by decide) (hts _ kw_230) rfl rfl (ty := t_B 8) (by decide +kernel) rfl rfl (Nat.le_of_ble_eq_true rfl) d_B_begin_45 rfl (fun H locs hP hD hS => ?_)
        refine lv_aload_n hx hb d_B_begin_48 rfl (lv_at hl 0 rfl) ?_
        refine lv_iconst (v := nI 0) hx hb d_B_begin_49 (by decide) ?_
        refine wz_put (gs' := [bl_W q ab mr gr fw cap f1 wy re 0 0 0 me2 (nI 0)]) (v := .int (nI 0)) (T := T_B) (N := 11) hx hb hts i_B t_B t_B_ok n_B hown hK hP hD hS 0 0 rfl rfl rfl 10 (by decide) (hts _ kw_235) rfl rfl (ty := t_B 10) (by decide +kernel) rfl rfl (Nat.le_of_ble_eq_true rfl) d_B_begin_50 rfl (fun H locs hP hD hS => ?_)
        refine lv_aload_n hx hb d_B_begin_53 rfl (lv_at hl 0 rfl) ?_
        refine lv_iload_n hx hb d_B_begin_54 rfl (lv_at hl 1 rfl) ?_
        refine lv_iconst (v := nI 0) hx hb d_B_begin_55 (by decide) ?_
        have hQ := wz_split (n := 1) (gc := [bl_W q ab mr gr fw cap f1 wy re 0 0 0 me2 (nI 0)]) (gr := []) [0] [] rfl (by decide) rfl rfl hP hD
        refine wz_callv (va_runV (As := [.int (nI i), .int (nI 0)]) (rest := []) ⟨hx, hb, hml, hown, hts⟩ (c_B_take l D q ab mr gr fw cap f1 wy re 0 0 0 me2 (nI 0) i 0 hcap hi (by omega) _) (cwV 2 hts (wz_goodV kw_323 kw_324 kw_325 kw_36 kw_326) rfl rfl rfl (by decide +kernel) ⟨Nat.le_of_ble_eq_true rfl, Nat.le_of_ble_eq_true rfl⟩) (wz_preV (gi := 0) (k := 0) hN hK hQ wz_L_ok rfl rfl rfl) rfl rfl hl.1 rfl (lv_room (Nat.le_of_ble_eq_true rfl)) d_B_begin_56 ⟨Nat.le_of_ble_eq_true rfl, Nat.le_of_ble_eq_true rfl⟩) hQ hS hA (fun gx H locs hp hP hD hS => ?_)
        have hp : gx = _ := hp
        subst hp
        obtain ⟨hP, hD⟩ := wz_ord (n := 1) (gs' := [bl_W q ab mr gr fw cap (upd f1 i (nI 0)) (vp_updL wy i 0) (upd re 0 (nI i)) (0 + 1) 0 0 me2 (nI 0)]) [0] rfl (by decide) rfl hP hD
        refine lv_aload_n hx hb d_B_begin_59 rfl (lv_at hl 0 rfl) ?_
        refine wz_get (v := .ref (ab 2)) (T := T_B) (N := 11) hx hb hts i_B hown hK hP 0 0 rfl rfl rfl 4 (by decide) (hts _ kw_222) rfl rfl d_B_begin_60 ?_
        refine lv_iload_n hx hb d_B_begin_63 rfl (lv_at hl 1 rfl) ?_
        refine lv_lconst (v := 1) hx hb d_B_begin_64 rfl ?_
        refine wz_last (gs' := [bl_W q ab mr gr fw cap (upd f1 i (nI 0)) (vp_updL (vp_updL wy i 0) i 1) (upd re 0 (nI i)) (0 + 1) 0 0 me2 (nI 0)]) hx hb hK hP hD hS 0 2 (j := i) rfl rfl (by omega) (by omega) d_B_begin_65 rfl (fun H locs hP hD hS => ?_)
        exact wz_vret hx hb hr hlocks hK hP hD hS d_B_begin_66 ⟨f1, fun j hj => (h1 j hj).resolve_right (fun ⟨y, q1, q2, _⟩ => by omega), rfl⟩
      · skip
        obtain ⟨j0, hj0, ej0⟩ := hraw.2.1 t hc
        refine lv_aload_n hx hb d_B_begin_10 rfl (lv_at hl 0 rfl) ?_
        refine wz_get (v := .ref (ab 1)) (T := T_B) (N := 11) hx hb hts i_B hown hK hP 0 0 rfl rfl rfl 3 (by decide) (hts _ kw_220) rfl rfl d_B_begin_11 ?_
        refine lv_aload_n hx hb d_B_begin_14 rfl (lv_at hl 0 rfl) ?_
        refine wz_get (v := .ref (ab 3)) (T := T_B) (N := 11) hx hb hts i_B hown hK hP 0 0 rfl rfl rfl 5 (by decide) (hts _ kw_224) rfl rfl d_B_begin_15 ?_
        refine lv_iload_n hx hb d_B_begin_18 rfl (lv_at hl 3 rfl) ?_
        refine wz_iald hx hb hK hP 0 3 (j := t) rfl rfl (by omega) (by omega) d_B_begin_19 ?_
        refine wz_topi (y := nI j0) ej0 ?_
        refine lv_iconst (v := (-1)) hx hb d_B_begin_20 (by decide) ?_
        refine wz_iast (gs' := [bl_W q ab mr gr fw cap (upd f1 j0 (-1)) wy re sz ly dp me cm]) hx hb hK hP hD hS 0 1 (j := j0) rfl rfl (by omega) (by omega) d_B_begin_21 rfl (fun H locs hP hD hS => ?_)
        refine lv_iinc (v := nI (t + 1)) (lv' := [(3, .int (nI (t + 1))), (0, .ref (ab 0)), (1, .int (nI i)), (2, .int me2)]) hx hb d_B_begin_22 hl (k := 3) rfl (nI_1 t) (by decide) rfl (fun ls hl => ?_)
        refine lv_goto (tgt := 2) hx hb d_B_begin_25 (by decide) ?_
        exact ih (t + 1) (upd f1 j0 (-1)) (by omega) (by omega) (fun j hj => by
          by_cases e0 : j = j0
          · subst e0; rw [pk_us]; exact Or.inl rfl
          · rw [pk_un e0]
            rcases h1 j hj with q | ⟨y, q1, q2, q3⟩
            · exact Or.inl q
            · refine Or.inr ⟨y, ?_, q2, q3⟩
              by_cases e1 : y = t
              · subst e1; rw [ej0] at q3; exact absurd ((nI_eq (by omega) (by omega)).mp q3).symm e0
              · omega) _ _ _ hP hD hS (lv_sub hl [1, 2, 3, 0] rfl)
  exact loop (sz + 1) 0 fa (by omega) (by omega) (fun j hj => by rcases hraw.2.2 j hj with q | ⟨y, q1, q2⟩; (exact Or.inl q); exact Or.inr ⟨y, by omega, q1, q2⟩) _ _ _ hP hD hS (lv_sub hl [1, 2, 3, 0] rfl)
def po_B_sizeOfLastLayer (q : wz_Q) (ab : Nat → Nat) (mr gr fw cap : Nat) (fa : Nat → Int32) (wy : Nat → Int64) (re : Nat → Int32) (sz ly dp : Nat) (me cm : Int32) : Int32 → wz_G → Prop := fun v w => w = [bl_W q ab mr gr fw cap fa wy re sz ly dp me cm] ∧ v = nI (sz - ly)
set_option maxHeartbeats 4000000 in
set_option maxRecDepth 100000 in
/-- how many lie farthest -/
theorem c_B_sizeOfLastLayer (l : Launch) (D : va_G) (q : wz_Q) (ab : Nat → Nat) (mr gr fw cap : Nat) (fa : Nat → Int32) (wy : Nat → Int64) (re : Nat → Int32) (sz ly dp : Nat) (me cm : Int32) (hly : ly ≤ sz) : wz_Mi l y_B_sizeOfLastLayer ws_B_sizeOfLastLayer ({ frames := 0, cells := 0, slots := 0, locals := 0 } : Room) D q ([.ref (ab 0)] : List Value) [bl_W q ab mr gr fw cap fa wy re sz ly dp me cm] (po_B_sizeOfLastLayer q ab mr gr fw cap fa wy re sz ly dp me cm) 0 0 := by
  intro sz9
  refine wz_enter (cc := b_B_sizeOfLastLayer) (maxL := 1) (ret := (some .int)) (Qc := fun A => (va_Qi (po_B_sizeOfLastLayer q ab mr gr fw cap fa wy re sz ly dp me cm) (wz_At D q A) A)) (by decide) (Nat.le_of_ble_eq_true rfl) ?_
  intro p e s m below meth c A ls C hP hD hS hl
  obtain ⟨hx, hb, hr, hml, hlocks, hown, hts, hN, hK, hA, hnm⟩ := C
  have hown : s.vm.findClass "TwoEndSearch$Ball" = some m.cls := hown
  have hl : lv_has ls 1 [(0, .ref (ab 0))] := hl
  refine lv_aload_n hx hb d_B_sizeOfLastLayer_0 rfl (lv_at hl 0 rfl) ?_
  refine wz_get (v := .int (nI sz)) (T := T_B) (N := 11) hx hb hts i_B hown hK hP 0 0 rfl rfl rfl 6 (by decide) (hts _ kw_226) rfl rfl d_B_sizeOfLastLayer_1 ?_
  refine lv_aload_n hx hb d_B_sizeOfLastLayer_4 rfl (lv_at hl 0 rfl) ?_
  refine wz_get (v := .int (nI ly)) (T := T_B) (N := 11) hx hb hts i_B hown hK hP 0 0 rfl rfl rfl 7 (by decide) (hts _ kw_228) rfl rfl d_B_sizeOfLastLayer_5 ?_
  refine lv_isub hx hb d_B_sizeOfLastLayer_8 ?_
  refine wz_topi (y := nI (sz - ly)) (pk_sub hly) ?_
  exact wz_iret hx hb hr hlocks hK hP hD hS d_B_sizeOfLastLayer_9 ⟨rfl, rfl⟩
def po_B_lastLayerMeets (q : wz_Q) (ab ac : Nat → Nat) (mr gr fw cap : Nat) (fa : Nat → Int32) (wy : Nat → Int64) (re : Nat → Int32) (ly dp : Nat) (me cm : Int32) (fw2 : Nat) (fa2 : Nat → Int32) (wy2 : Nat → Int64) (re2 : Nat → Int32) (sz2 ly2 dp2 : Nat) (me2 cm2 : Int32) (G : List Nat) (S T : pz_S) : Int32 → wz_G → Prop := fun v w => w = [bl_W q ab mr gr fw cap fa wy re S.1.length ly dp me cm, bl_W q ac mr gr fw2 cap fa2 wy2 re2 sz2 ly2 dp2 me2 cm2] ∧ wz_bit v (∃ i x, ly ≤ i ∧ S.1[i]? = some x ∧ T.2.1 x ≠ none)
set_option maxHeartbeats 4000000 in
set_option maxRecDepth 100000 in
/-- whether a state of the last layer is known to another ball -/
theorem c_B_lastLayerMeets (l : Launch) (D : va_G) (q : wz_Q) (ab ac : Nat → Nat) (mr gr fw cap : Nat) (fa : Nat → Int32) (wy : Nat → Int64) (re : Nat → Int32) (ly dp : Nat) (me cm : Int32) (fw2 : Nat) (fa2 : Nat → Int32) (wy2 : Nat → Int64) (re2 : Nat → Int32) (sz2 ly2 dp2 : Nat) (me2 cm2 : Int32) (G : List Nat) (S T : pz_S) (hcap : cap < 2 ^ 31) (hGc : G.length ≤ cap) (hly : ly ≤ S.1.length) (hS1 : bl_ok cap G S fa wy re) (hT1 : bl_ok cap G T fa2 wy2 re2) (hTl : ∀ x e, T.2.1 x = some e → e < 2 ^ 30) : wz_Mi l y_B_lastLayerMeets ws_B_lastLayerMeets ({ frames := 0, cells := 0, slots := 0, locals := 0 } : Room) D q ([.ref (ab 0), .ref (ac 0)] : List Value) [bl_W q ab mr gr fw cap fa wy re S.1.length ly dp me cm, bl_W q ac mr gr fw2 cap fa2 wy2 re2 sz2 ly2 dp2 me2 cm2] (po_B_lastLayerMeets q ab ac mr gr fw cap fa wy re ly dp me cm fw2 fa2 wy2 re2 sz2 ly2 dp2 me2 cm2 G S T) 0 0 := by
  intro sz9
  refine wz_enter (cc := b_B_lastLayerMeets) (maxL := 3) (ret := (some .boolean)) (Qc := fun A => (va_Qi (po_B_lastLayerMeets q ab ac mr gr fw cap fa wy re ly dp me cm fw2 fa2 wy2 re2 sz2 ly2 dp2 me2 cm2 G S T) (wz_At D q A) A)) (by decide) (Nat.le_of_ble_eq_true rfl) ?_
  intro p e s m below meth c A ls C hP hD hS hl
  obtain ⟨hx, hb, hr, hml, hlocks, hown, hts, hN, hK, hA, hnm⟩ := C
  have hown : s.vm.findClass "TwoEndSearch$Ball" = some m.cls := hown
  have hl : lv_has ls 3 [(0, .ref (ab 0)), (1, .ref (ac 0))] := hl
  have hSl := bl_len hS1
  refine lv_aload_n hx hb d_B_lastLayerMeets_0 rfl (lv_at hl 0 rfl) ?_
  refine wz_get (v := .int (nI ly)) (T := T_B) (N := 11) hx hb hts i_B hown hK hP 0 0 rfl rfl rfl 7 (by decide) (hts _ kw_228) rfl rfl d_B_lastLayerMeets_1 ?_
  refine lv_istore_n (lv' := [(2, .int (nI ly)), (0, .ref (ab 0)), (1, .ref (ac 0))]) hx hb d_B_lastLayerMeets_4 rfl hl (by decide) rfl (fun ls hl => ?_)
  have loop : ∀ (d : Nat) (t : Nat), t ≤ S.1.length → ly ≤ t → S.1.length + 1 ≤ t + d → (∀ i x, ly ≤ i → i < t → S.1[i]? = some x → T.2.1 x = none) → ∀ (H : Heap) (locs : List Loc) (ls : Array Slot), va_P D vwCl ([bl_W q ab mr gr fw cap fa wy re S.1.length ly dp me cm, bl_W q ac mr gr fw2 cap fa2 wy2 re2 sz2 ly2 dp2 me2 cm2] : wz_G).flatten H → va_D A ([bl_W q ab mr gr fw cap fa wy re S.1.length ly dp me cm, bl_W q ac mr gr fw2 cap fa2 wy2 re2 sz2 ly2 dp2 me2 cm2] : wz_G).flatten → va_S A s.heap H locs → lv_has ls 3 [(0, .ref (ab 0)), (1, .ref (ac 0)), (2, .int (nI t))] → W p l e ({ frames := 0, cells := 0, slots := 0, locals := 0 } : Room) s m ([.ref (ab 0), .ref (ac 0)] : List Value).toArray below meth c H locs 0 0 (MQ below (va_Qi (po_B_lastLayerMeets q ab ac mr gr fw cap fa wy re ly dp me cm fw2 fa2 wy2 re2 sz2 ly2 dp2 me2 cm2 G S T) (wz_At D q A) A) ([.ref (ab 0), .ref (ac 0)] : List Value).toArray s 0 0 A) (F0 m 5 ls []) := by
    intro d
    induction d with
    | zero =>
      intro t ht ht2 hd h1
      omega
    | succ d ih =>
      intro t ht ht2 hd h1 H locs ls hP hD hS hl
      refine lv_iload_n hx hb d_B_lastLayerMeets_5 rfl (lv_at hl 2 rfl) ?_
      refine lv_aload_n hx hb d_B_lastLayerMeets_6 rfl (lv_at hl 0 rfl) ?_
      refine wz_get (v := .int (nI S.1.length)) (T := T_B) (N := 11) hx hb hts i_B hown hK hP 0 0 rfl rfl rfl 6 (by decide) (hts _ kw_226) rfl rfl d_B_lastLayerMeets_7 ?_
      refine wz_ge (tgt := 36) hx hb d_B_lastLayerMeets_10 (by decide) (by omega) (by omega) (fun hc => ?_) (fun hc => ?_)
      · skip
        refine lv_iconst (v := nI 0) hx hb d_B_lastLayerMeets_36 (by decide) ?_
        exact wz_zret hx hb hr hlocks hK hP hD hS d_B_lastLayerMeets_37 (by first | exact Or.inl rfl | exact Or.inr rfl) ⟨rfl, Or.inr ⟨rfl, fun ⟨i, x, q1, q2, q3⟩ => q3 (h1 i x q1 (by have := (List.getElem?_eq_some_iff.mp q2).1; omega) q2)⟩⟩
      · skip
        obtain ⟨x, hgx⟩ : ∃ x, S.1[t]? = some x := ⟨_, List.getElem?_eq_getElem hc⟩
        obtain ⟨j, ej, hj⟩ := hS1.2.2.2 t x hgx
        have hjl := (List.getElem?_eq_some_iff.mp hj).1
        refine lv_aload_n hx hb d_B_lastLayerMeets_13 rfl (lv_at hl 1 rfl) ?_
        refine wz_get (v := .ref (ac 1)) (T := T_B) (N := 11) hx hb hts i_B hown hK hP 1 0 rfl rfl rfl 3 (by decide) (hts _ kw_220) rfl rfl d_B_lastLayerMeets_14 ?_
        refine lv_aload_n hx hb d_B_lastLayerMeets_17 rfl (lv_at hl 0 rfl) ?_
        refine wz_get (v := .ref (ab 3)) (T := T_B) (N := 11) hx hb hts i_B hown hK hP 0 0 rfl rfl rfl 5 (by decide) (hts _ kw_224) rfl rfl d_B_lastLayerMeets_18 ?_
        refine lv_iload_n hx hb d_B_lastLayerMeets_21 rfl (lv_at hl 2 rfl) ?_
        refine wz_iald hx hb hK hP 0 3 (j := t) rfl rfl (by omega) (by omega) d_B_lastLayerMeets_22 ?_
        refine wz_topi (y := nI j) ej ?_
        refine wz_iald hx hb hK hP 1 1 (j := j) rfl rfl (by omega) (by omega) d_B_lastLayerMeets_23 ?_
        refine wz_topi (y := (bl_fo (T.2.1 x))) (hT1.2.1 j x hj).1 ?_
        refine lv_iconst (v := (-1)) hx hb d_B_lastLayerMeets_24 (by decide) ?_
        refine lv_icmp_eq (tgt := 30) hx hb d_B_lastLayerMeets_25 (by decide) (fun hc2 => ?_) (fun hc2 => ?_)
        · skip
          refine lv_iinc (v := nI (t + 1)) (lv' := [(2, .int (nI (t + 1))), (0, .ref (ab 0)), (1, .ref (ac 0))]) hx hb d_B_lastLayerMeets_30 hl (k := 2) rfl (nI_1 t) (by decide) rfl (fun ls hl => ?_)
          refine lv_goto (tgt := 5) hx hb d_B_lastLayerMeets_33 (by decide) ?_
          exact ih (t + 1) (by omega) (by omega) (by omega) (fun i z q1 q2 q3 => by
            by_cases e0 : i = t
            · subst e0
              have : z = x := Option.some.inj (q3.symm.trans hgx)
              subst this
              exact (bl_fo_n (fun e => hTl z e)).mp hc2
            · exact h1 i z q1 (by omega) q3) _ _ _ hP hD hS (lv_sub hl [1, 2, 0] rfl)
        · skip
          refine lv_iconst (v := nI 1) hx hb d_B_lastLayerMeets_28 (by decide) ?_
          exact wz_zret hx hb hr hlocks hK hP hD hS d_B_lastLayerMeets_29 (by first | exact Or.inl rfl | exact Or.inr rfl) ⟨rfl, Or.inl ⟨rfl, t, x, ht2, hgx, fun q => hc2 ((bl_fo_n (fun e => hTl x e)).mpr q)⟩⟩
  exact loop (S.1.length + 1) ly (by omega) (by omega) (by omega) (fun i x q1 q2 => by omega) _ _ _ hP hD hS (lv_sub hl [1, 2, 0] rfl)
def po_B_countWithin (q : wz_Q) (ab : Nat → Nat) (mr gr fw cap : Nat) (fa : Nat → Int32) (wy : Nat → Int64) (re : Nat → Int32) (ly dp : Nat) (me cm : Int32) (G : List Nat) (S : pz_S) (dd mm : Nat) : Int32 → wz_G → Prop := fun v w => w = [bl_W q ab mr gr fw cap fa wy re S.1.length ly dp me cm] ∧ v = nI mm
set_option maxHeartbeats 4000000 in
set_option maxRecDepth 100000 in
/-- how many lie nearer than dd -/
theorem c_B_countWithin (l : Launch) (D : va_G) (q : wz_Q) (ab : Nat → Nat) (mr gr fw cap : Nat) (fa : Nat → Int32) (wy : Nat → Int64) (re : Nat → Int32) (ly dp : Nat) (me cm : Int32) (G : List Nat) (S : pz_S) (dd mm : Nat) (hcap : cap ≤ 40320) (hGc : G.length ≤ cap) (hS1 : bl_ok cap G S fa wy re) (hSl : ∀ x e, S.2.1 x = some e → e < 2 ^ 30) (hdd : dd < 2 ^ 31) (hcw : bl_cw S dd mm) : wz_Mi l y_B_countWithin ws_B_countWithin ({ frames := 0, cells := 0, slots := 0, locals := 0 } : Room) D q ([.ref (ab 0), .int (nI dd - nI 1)] : List Value) [bl_W q ab mr gr fw cap fa wy re S.1.length ly dp me cm] (po_B_countWithin q ab mr gr fw cap fa wy re ly dp me cm G S dd mm) 0 0 := by
  intro sz9
  refine wz_enter (cc := b_B_countWithin) (maxL := 5) (ret := (some .int)) (Qc := fun A => (va_Qi (po_B_countWithin q ab mr gr fw cap fa wy re ly dp me cm G S dd mm) (wz_At D q A) A)) (by decide) (Nat.le_of_ble_eq_true rfl) ?_
  intro p e s m below meth c A ls C hP hD hS hl
  obtain ⟨hx, hb, hr, hml, hlocks, hown, hts, hN, hK, hA, hnm⟩ := C
  have hown : s.vm.findClass "TwoEndSearch$Ball" = some m.cls := hown
  have hl : lv_has ls 5 [(0, .ref (ab 0)), (1, .int (nI dd - nI 1))] := hl
  have hSn := bl_len hS1
  have hmm := hcw.1
  refine lv_iconst (v := nI 0) hx hb d_B_countWithin_0 (by decide) ?_
  refine lv_istore_n (lv' := [(2, .int (nI 0)), (0, .ref (ab 0)), (1, .int (nI dd - nI 1))]) hx hb d_B_countWithin_1 rfl hl (by decide) rfl (fun ls hl => ?_)
  refine lv_ldc (v := nI 32768) hx hb hown (hts _ kw_422) d_B_countWithin_2 ?_
  refine lv_istore_n (lv' := [(3, .int (nI 32768)), (2, .int (nI 0)), (0, .ref (ab 0)), (1, .int (nI dd - nI 1))]) hx hb d_B_countWithin_4 rfl hl (by decide) rfl (fun ls hl => ?_)
  have loop : ∀ (d : Nat) (e9 wn : Nat), e9 < d → e9 ≤ 16 → wn ≤ mm → mm < wn + 2 ^ e9 → ∀ (H : Heap) (locs : List Loc) (ls : Array Slot), va_P D vwCl ([bl_W q ab mr gr fw cap fa wy re S.1.length ly dp me cm] : wz_G).flatten H → va_D A ([bl_W q ab mr gr fw cap fa wy re S.1.length ly dp me cm] : wz_G).flatten → va_S A s.heap H locs → lv_has ls 5 [(0, .ref (ab 0)), (1, .int (nI dd - nI 1)), (2, .int (nI wn)), (3, .int (nI (2 ^ e9 / 2)))] → W p l e ({ frames := 0, cells := 0, slots := 0, locals := 0 } : Room) s m ([.ref (ab 0), .int (nI dd - nI 1)] : List Value).toArray below meth c H locs 0 0 (MQ below (va_Qi (po_B_countWithin q ab mr gr fw cap fa wy re ly dp me cm G S dd mm) (wz_At D q A) A) ([.ref (ab 0), .int (nI dd - nI 1)] : List Value).toArray s 0 0 A) (F0 m 5 ls []) := by
    intro d
    induction d with
    | zero =>
      intro e9 wn hd he h1 h2
      omega
    | succ d ih =>
      intro e9 wn hd he h1 h2 H locs ls hP hD hS hl
      have hpw : 2 ^ e9 ≤ 2 ^ 16 := Nat.pow_le_pow_right (by decide) he
      refine lv_iload_n hx hb d_B_countWithin_5 rfl (lv_at hl 3 rfl) ?_
      refine lv_if_le (tgt := 52) hx hb d_B_countWithin_6 (by decide) (fun hc => ?_) (fun hc => ?_)
      · skip
        have he0 : e9 = 0 := by
          by_cases e0 : e9 = 0
          · exact e0
          · obtain ⟨e8, rfl⟩ : ∃ e8, e9 = e8 + 1 := ⟨e9 - 1, by omega⟩
            have hp2 : 0 < 2 ^ e8 := Nat.pow_pos (by decide)
            rw [Nat.pow_succ, Nat.mul_div_cancel _ (by decide)] at hc
            rw [Nat.pow_succ] at hpw
            exact absurd hc (nI_nle hp2 (by omega))
        subst he0
        have : wn = mm := by omega
        subst this
        refine lv_iload_n hx hb d_B_countWithin_52 rfl (lv_at hl 2 rfl) ?_
        exact wz_iret hx hb hr hlocks hK hP hD hS d_B_countWithin_53 ⟨rfl, rfl⟩
      · skip
        have he0 : e9 ≠ 0 := fun e0 => hc (by rw [e0]; decide)
        obtain ⟨e8, rfl⟩ : ∃ e8, e9 = e8 + 1 := ⟨e9 - 1, by omega⟩
        have hp2 : 0 < 2 ^ e8 := Nat.pow_pos (by decide)
        have hq : 2 ^ (e8 + 1) / 2 = 2 ^ e8 := by rw [Nat.pow_succ, Nat.mul_div_cancel _ (by decide)]
        rw [Nat.pow_succ] at h2 hpw
        rw [hq] at hl
        refine lv_iload_n hx hb d_B_countWithin_9 rfl (lv_at hl 2 rfl) ?_
        refine lv_iload_n hx hb d_B_countWithin_10 rfl (lv_at hl 3 rfl) ?_
        refine lv_iadd hx hb d_B_countWithin_11 ?_
        refine wz_topi (y := nI (wn + (2 ^ e8))) (nI_add wn (2 ^ e8)) ?_
        refine lv_iconst (v := nI 1) hx hb d_B_countWithin_12 (by decide) ?_
        refine lv_isub hx hb d_B_countWithin_13 ?_
        refine wz_topi (y := nI (wn + 2 ^ e8 - 1)) (pk_sub (by omega)) ?_
        refine lv_istore (lv' := [(4, .int (nI (wn + 2 ^ e8 - 1))), (0, .ref (ab 0)), (1, .int (nI dd - nI 1)), (2, .int (nI wn)), (3, .int (nI (2 ^ e8)))]) hx hb d_B_countWithin_14 hl (by decide) rfl (fun ls hl => ?_)
        refine lv_iload hx hb d_B_countWithin_16 (lv_at hl 0 rfl) ?_
        refine lv_aload_n hx hb d_B_countWithin_18 rfl (lv_at hl 1 rfl) ?_
        refine wz_get (v := .int (nI S.1.length)) (T := T_B) (N := 11) hx hb hts i_B hown hK hP 0 0 rfl rfl rfl 6 (by decide) (hts _ kw_226) rfl rfl d_B_countWithin_19 ?_
        refine wz_ge (tgt := 45) hx hb d_B_countWithin_22 (by decide) (by omega) (by omega) (fun hc2 => ?_) (fun hc2 => ?_)
        · skip
          refine lv_iload_n hx hb d_B_countWithin_45 rfl (lv_at hl 4 rfl) ?_
          refine lv_iconst (v := nI 1) hx hb d_B_countWithin_46 (by decide) ?_
          refine lv_ishr hx hb d_B_countWithin_47 ?_
          refine wz_topi (y := nI (2 ^ e8 / 2)) (pk_shrN (by omega) _ 1 (by decide)) ?_
          refine lv_istore_n (lv' := [(3, .int (nI (2 ^ e8 / 2))), (4, .int (nI (wn + 2 ^ e8 - 1))), (0, .ref (ab 0)), (1, .int (nI dd - nI 1)), (2, .int (nI wn))]) hx hb d_B_countWithin_48 rfl hl (by decide) rfl (fun ls hl => ?_)
          refine lv_goto (tgt := 5) hx hb d_B_countWithin_49 (by decide) ?_
          exact ih e8 wn (by omega) (by omega) h1 (by omega) _ _ _ hP hD hS (lv_sub hl [2, 3, 4, 0] rfl)
        · skip
          obtain ⟨x, hgx⟩ : ∃ x, S.1[wn + 2 ^ e8 - 1]? = some x := ⟨_, List.getElem?_eq_getElem hc2⟩
          obtain ⟨j, ej, hj⟩ := hS1.2.2.2 _ x hgx
          have hjl := (List.getElem?_eq_some_iff.mp hj).1
          obtain ⟨e7, he7⟩ := pz_mem_far hS1.1 (List.mem_of_getElem? hgx)
          have he7l := hSl x e7 he7
          refine lv_aload_n hx hb d_B_countWithin_25 rfl (lv_at hl 1 rfl) ?_
          refine wz_get (v := .ref (ab 1)) (T := T_B) (N := 11) hx hb hts i_B hown hK hP 0 0 rfl rfl rfl 3 (by decide) (hts _ kw_220) rfl rfl d_B_countWithin_26 ?_
          refine lv_aload_n hx hb d_B_countWithin_29 rfl (lv_at hl 1 rfl) ?_
          refine wz_get (v := .ref (ab 3)) (T := T_B) (N := 11) hx hb hts i_B hown hK hP 0 0 rfl rfl rfl 5 (by decide) (hts _ kw_224) rfl rfl d_B_countWithin_30 ?_
          refine lv_iload hx hb d_B_countWithin_33 (lv_at hl 0 rfl) ?_
          refine wz_iald hx hb hK hP 0 3 (j := (wn + 2 ^ e8 - 1)) rfl rfl (by omega) (by omega) d_B_countWithin_35 ?_
          refine wz_topi (y := nI j) ej ?_
          refine wz_iald hx hb hK hP 0 1 (j := j) rfl rfl (by omega) (by omega) d_B_countWithin_36 ?_
          refine wz_topi (y := nI e7) ((hS1.2.1 j x hj).1.trans (by rw [he7]; rfl)) ?_
          refine lv_iload_n hx hb d_B_countWithin_37 rfl (lv_at hl 2 rfl) ?_
          refine lv_icmp_gt (tgt := 45) hx hb d_B_countWithin_38 (by decide) (fun hc3 => ?_) (fun hc3 => ?_)
          · skip
            refine lv_iload_n hx hb d_B_countWithin_45 rfl (lv_at hl 4 rfl) ?_
            refine lv_iconst (v := nI 1) hx hb d_B_countWithin_46 (by decide) ?_
            refine lv_ishr hx hb d_B_countWithin_47 ?_
            refine wz_topi (y := nI (2 ^ e8 / 2)) (pk_shrN (by omega) _ 1 (by decide)) ?_
            refine lv_istore_n (lv' := [(3, .int (nI (2 ^ e8 / 2))), (4, .int (nI (wn + 2 ^ e8 - 1))), (0, .ref (ab 0)), (1, .int (nI dd - nI 1)), (2, .int (nI wn))]) hx hb d_B_countWithin_48 rfl hl (by decide) rfl (fun ls hl => ?_)
            refine lv_goto (tgt := 5) hx hb d_B_countWithin_49 (by decide) ?_
            exact ih e8 wn (by omega) (by omega) h1 (by
              by_cases e0 : wn + 2 ^ e8 - 1 < mm
              · exact absurd hc3 (bl_gt_no (hcw.2.1 _ x e7 e0 hgx he7) hdd)
              · omega) _ _ _ hP hD hS (lv_sub hl [2, 3, 4, 0] rfl)
          · skip
            refine lv_iload_n hx hb d_B_countWithin_41 rfl (lv_at hl 3 rfl) ?_
            refine lv_iload_n hx hb d_B_countWithin_42 rfl (lv_at hl 4 rfl) ?_
            refine lv_iadd hx hb d_B_countWithin_43 ?_
            refine wz_topi (y := nI (wn + (2 ^ e8))) (nI_add wn (2 ^ e8)) ?_
            refine lv_istore_n (lv' := [(2, .int (nI (wn + (2 ^ e8)))), (4, .int (nI (wn + 2 ^ e8 - 1))), (0, .ref (ab 0)), (1, .int (nI dd - nI 1)), (3, .int (nI (2 ^ e8)))]) hx hb d_B_countWithin_44 rfl hl (by decide) rfl (fun ls hl => ?_)
            refine lv_iload_n hx hb d_B_countWithin_45 rfl (lv_at hl 4 rfl) ?_
            refine lv_iconst (v := nI 1) hx hb d_B_countWithin_46 (by decide) ?_
            refine lv_ishr hx hb d_B_countWithin_47 ?_
            refine wz_topi (y := nI (2 ^ e8 / 2)) (pk_shrN (by omega) _ 1 (by decide)) ?_
            refine lv_istore_n (lv' := [(3, .int (nI (2 ^ e8 / 2))), (2, .int (nI (wn + (2 ^ e8)))), (4, .int (nI (wn + 2 ^ e8 - 1))), (0, .ref (ab 0)), (1, .int (nI dd - nI 1))]) hx hb d_B_countWithin_48 rfl hl (by decide) rfl (fun ls hl => ?_)
            refine lv_goto (tgt := 5) hx hb d_B_countWithin_49 (by decide) ?_
            exact ih e8 (wn + 2 ^ e8) (by omega) (by omega) (by
              by_cases e0 : mm ≤ wn + 2 ^ e8 - 1
              · exact absurd (bl_gt (hcw.2.2 _ x e7 e0 hgx he7) hdd he7l) hc3
              · omega) (by omega) _ _ _ hP hD hS (lv_sub hl [3, 4, 1, 0] rfl)
  exact loop 17 16 0 (by omega) (by omega) (by omega) (by omega) _ _ _ hP hD hS (lv_sub hl [2, 3, 1, 0] rfl)
end
section
theorem d_B_reachFrom_0 : decode b_B_reachFrom 0 = .ok (.aload_n 0, 1) := by decide +kernel
theorem d_B_reachFrom_1 : decode b_B_reachFrom 1 = .ok (.getfield 21, 3) := by decide +kernel
theorem d_B_reachFrom_4 : decode b_B_reachFrom 4 = .ok (.aload_n 0, 1) := by decide +kernel
theorem d_B_reachFrom_5 : decode b_B_reachFrom 5 = .ok (.getfield 46, 3) := by decide +kernel
theorem d_B_reachFrom_8 : decode b_B_reachFrom 8 = .ok (.iload_n 2, 1) := by decide +kernel
theorem d_B_reachFrom_9 : decode b_B_reachFrom 9 = .ok (.invokevirtual 83, 3) := by decide +kernel
theorem d_B_reachFrom_12 : decode b_B_reachFrom 12 = .ok (.istore_n 3, 1) := by decide +kernel
theorem d_B_reachFrom_13 : decode b_B_reachFrom 13 = .ok (.iload_n 1, 1) := by decide +kernel
theorem d_B_reachFrom_14 : decode b_B_reachFrom 14 = .ok (.istore 4, 2) := by decide +kernel
theorem d_B_reachFrom_16 : decode b_B_reachFrom 16 = .ok (.iconst 1, 1) := by decide +kernel
theorem d_B_reachFrom_17 : decode b_B_reachFrom 17 = .ok (.istore 5, 2) := by decide +kernel
theorem d_B_reachFrom_19 : decode b_B_reachFrom 19 = .ok (.iload 5, 2) := by decide +kernel
theorem d_B_reachFrom_21 : decode b_B_reachFrom 21 = .ok (.iload_n 3, 1) := by decide +kernel
theorem d_B_reachFrom_22 : decode b_B_reachFrom 22 = .ok (.if_icmp .gt 81, 3) := by decide +kernel
theorem d_B_reachFrom_25 : decode b_B_reachFrom 25 = .ok (.aload_n 0, 1) := by decide +kernel
theorem d_B_reachFrom_26 : decode b_B_reachFrom 26 = .ok (.getfield 9, 3) := by decide +kernel
theorem d_B_reachFrom_29 : decode b_B_reachFrom 29 = .ok (.aload_n 0, 1) := by decide +kernel
theorem d_B_reachFrom_30 : decode b_B_reachFrom 30 = .ok (.getfield 22, 3) := by decide +kernel
theorem d_B_reachFrom_33 : decode b_B_reachFrom 33 = .ok (.iload_n 2, 1) := by decide +kernel
theorem d_B_reachFrom_34 : decode b_B_reachFrom 34 = .ok (.iadd, 1) := by decide +kernel
theorem d_B_reachFrom_35 : decode b_B_reachFrom 35 = .ok (.iload 4, 2) := by decide +kernel
theorem d_B_reachFrom_37 : decode b_B_reachFrom 37 = .ok (.invokevirtual 87, 3) := by decide +kernel
theorem d_B_reachFrom_40 : decode b_B_reachFrom 40 = .ok (.istore 4, 2) := by decide +kernel
theorem d_B_reachFrom_42 : decode b_B_reachFrom 42 = .ok (.aload_n 0, 1) := by decide +kernel
theorem d_B_reachFrom_43 : decode b_B_reachFrom 43 = .ok (.getfield 26, 3) := by decide +kernel
theorem d_B_reachFrom_46 : decode b_B_reachFrom 46 = .ok (.iload 4, 2) := by decide +kernel
theorem d_B_reachFrom_48 : decode b_B_reachFrom 48 = .ok (.iaload, 1) := by decide +kernel
theorem d_B_reachFrom_49 : decode b_B_reachFrom 49 = .ok (.iconst (-1), 1) := by decide +kernel
theorem d_B_reachFrom_50 : decode b_B_reachFrom 50 = .ok (.if_icmp .ne 15, 3) := by decide +kernel
theorem d_B_reachFrom_53 : decode b_B_reachFrom 53 = .ok (.aload_n 0, 1) := by decide +kernel
theorem d_B_reachFrom_54 : decode b_B_reachFrom 54 = .ok (.iload 4, 2) := by decide +kernel
theorem d_B_reachFrom_56 : decode b_B_reachFrom 56 = .ok (.aload_n 0, 1) := by decide +kernel
theorem d_B_reachFrom_57 : decode b_B_reachFrom 57 = .ok (.getfield 52, 3) := by decide +kernel
theorem d_B_reachFrom_60 : decode b_B_reachFrom 60 = .ok (.iconst 1, 1) := by decide +kernel
theorem d_B_reachFrom_61 : decode b_B_reachFrom 61 = .ok (.iadd, 1) := by decide +kernel
theorem d_B_reachFrom_62 : decode b_B_reachFrom 62 = .ok (.invokevirtual 59, 3) := by decide +kernel
theorem d_B_reachFrom_65 : decode b_B_reachFrom 65 = .ok (.aload_n 0, 1) := by decide +kernel
theorem d_B_reachFrom_66 : decode b_B_reachFrom 66 = .ok (.getfield 26, 3) := by decide +kernel
theorem d_B_reachFrom_69 : decode b_B_reachFrom 69 = .ok (.iload 4, 2) := by decide +kernel
theorem d_B_reachFrom_71 : decode b_B_reachFrom 71 = .ok (.iaload, 1) := by decide +kernel
theorem d_B_reachFrom_72 : decode b_B_reachFrom 72 = .ok (.aload_n 0, 1) := by decide +kernel
theorem d_B_reachFrom_73 : decode b_B_reachFrom 73 = .ok (.getfield 52, 3) := by decide +kernel
theorem d_B_reachFrom_76 : decode b_B_reachFrom 76 = .ok (.iconst 1, 1) := by decide +kernel
theorem d_B_reachFrom_77 : decode b_B_reachFrom 77 = .ok (.iadd, 1) := by decide +kernel
theorem d_B_reachFrom_78 : decode b_B_reachFrom 78 = .ok (.if_icmp .ne 19, 3) := by decide +kernel
theorem d_B_reachFrom_81 : decode b_B_reachFrom 81 = .ok (.aload_n 0, 1) := by decide +kernel
theorem d_B_reachFrom_82 : decode b_B_reachFrom 82 = .ok (.getfield 36, 3) := by decide +kernel
theorem d_B_reachFrom_85 : decode b_B_reachFrom 85 = .ok (.iload 4, 2) := by decide +kernel
theorem d_B_reachFrom_87 : decode b_B_reachFrom 87 = .ok (.dup2, 1) := by decide +kernel
theorem d_B_reachFrom_88 : decode b_B_reachFrom 88 = .ok (.laload, 1) := by decide +kernel
theorem d_B_reachFrom_89 : decode b_B_reachFrom 89 = .ok (.aload_n 0, 1) := by decide +kernel
theorem d_B_reachFrom_90 : decode b_B_reachFrom 90 = .ok (.getfield 36, 3) := by decide +kernel
theorem d_B_reachFrom_93 : decode b_B_reachFrom 93 = .ok (.iload_n 1, 1) := by decide +kernel
theorem d_B_reachFrom_94 : decode b_B_reachFrom 94 = .ok (.laload, 1) := by decide +kernel
theorem d_B_reachFrom_95 : decode b_B_reachFrom 95 = .ok (.ladd, 1) := by decide +kernel
theorem d_B_reachFrom_96 : decode b_B_reachFrom 96 = .ok (.lastore, 1) := by decide +kernel
theorem d_B_reachFrom_97 : decode b_B_reachFrom 97 = .ok (.iinc 5 1, 3) := by decide +kernel
theorem d_B_reachFrom_100 : decode b_B_reachFrom 100 = .ok (.goto (-81), 3) := by decide +kernel
theorem d_B_reachFrom_103 : decode b_B_reachFrom 103 = .ok (.return_, 1) := by decide +kernel
theorem d_B_grow_0 : decode b_B_grow 0 = .ok (.aload_n 0, 1) := by decide +kernel
theorem d_B_grow_1 : decode b_B_grow 1 = .ok (.getfield 43, 3) := by decide +kernel
theorem d_B_grow_4 : decode b_B_grow 4 = .ok (.istore_n 1, 1) := by decide +kernel
theorem d_B_grow_5 : decode b_B_grow 5 = .ok (.aload_n 0, 1) := by decide +kernel
theorem d_B_grow_6 : decode b_B_grow 6 = .ok (.getfield 49, 3) := by decide +kernel
theorem d_B_grow_9 : decode b_B_grow 9 = .ok (.istore_n 2, 1) := by decide +kernel
theorem d_B_grow_10 : decode b_B_grow 10 = .ok (.iload_n 2, 1) := by decide +kernel
theorem d_B_grow_11 : decode b_B_grow 11 = .ok (.iload_n 1, 1) := by decide +kernel
theorem d_B_grow_12 : decode b_B_grow 12 = .ok (.if_icmp .ge 46, 3) := by decide +kernel
theorem d_B_grow_15 : decode b_B_grow 15 = .ok (.aload_n 0, 1) := by decide +kernel
theorem d_B_grow_16 : decode b_B_grow 16 = .ok (.getfield 55, 3) := by decide +kernel
theorem d_B_grow_19 : decode b_B_grow 19 = .ok (.ifCond .ne 39, 3) := by decide +kernel
theorem d_B_grow_22 : decode b_B_grow 22 = .ok (.iconst 0, 1) := by decide +kernel
theorem d_B_grow_23 : decode b_B_grow 23 = .ok (.istore_n 3, 1) := by decide +kernel
theorem d_B_grow_24 : decode b_B_grow 24 = .ok (.iload_n 3, 1) := by decide +kernel
theorem d_B_grow_25 : decode b_B_grow 25 = .ok (.aload_n 0, 1) := by decide +kernel
theorem d_B_grow_26 : decode b_B_grow 26 = .ok (.getfield 21, 3) := by decide +kernel
theorem d_B_grow_29 : decode b_B_grow 29 = .ok (.getfield 63, 3) := by decide +kernel
theorem d_B_grow_32 : decode b_B_grow 32 = .ok (.if_icmp .ge 20, 3) := by decide +kernel
theorem d_B_grow_35 : decode b_B_grow 35 = .ok (.aload_n 0, 1) := by decide +kernel
theorem d_B_grow_36 : decode b_B_grow 36 = .ok (.aload_n 0, 1) := by decide +kernel
theorem d_B_grow_37 : decode b_B_grow 37 = .ok (.getfield 40, 3) := by decide +kernel
theorem d_B_grow_40 : decode b_B_grow 40 = .ok (.iload_n 2, 1) := by decide +kernel
theorem d_B_grow_41 : decode b_B_grow 41 = .ok (.iaload, 1) := by decide +kernel
theorem d_B_grow_42 : decode b_B_grow 42 = .ok (.iload_n 3, 1) := by decide +kernel
theorem d_B_grow_43 : decode b_B_grow 43 = .ok (.invokevirtual 68, 3) := by decide +kernel
theorem d_B_grow_46 : decode b_B_grow 46 = .ok (.iinc 3 1, 3) := by decide +kernel
theorem d_B_grow_49 : decode b_B_grow 49 = .ok (.goto (-25), 3) := by decide +kernel
theorem d_B_grow_52 : decode b_B_grow 52 = .ok (.iinc 2 1, 3) := by decide +kernel
theorem d_B_grow_55 : decode b_B_grow 55 = .ok (.goto (-45), 3) := by decide +kernel
theorem d_B_grow_58 : decode b_B_grow 58 = .ok (.aload_n 0, 1) := by decide +kernel
theorem d_B_grow_59 : decode b_B_grow 59 = .ok (.aload_n 0, 1) := by decide +kernel
theorem d_B_grow_60 : decode b_B_grow 60 = .ok (.getfield 43, 3) := by decide +kernel
theorem d_B_grow_63 : decode b_B_grow 63 = .ok (.iload_n 1, 1) := by decide +kernel
theorem d_B_grow_64 : decode b_B_grow 64 = .ok (.if_icmp .ne 7, 3) := by decide +kernel
theorem d_B_grow_67 : decode b_B_grow 67 = .ok (.iconst 1, 1) := by decide +kernel
theorem d_B_grow_68 : decode b_B_grow 68 = .ok (.goto 4, 3) := by decide +kernel
theorem d_B_grow_71 : decode b_B_grow 71 = .ok (.iconst 0, 1) := by decide +kernel
theorem d_B_grow_72 : decode b_B_grow 72 = .ok (.putfield 55, 3) := by decide +kernel
theorem d_B_grow_75 : decode b_B_grow 75 = .ok (.aload_n 0, 1) := by decide +kernel
theorem d_B_grow_76 : decode b_B_grow 76 = .ok (.getfield 55, 3) := by decide +kernel
theorem d_B_grow_79 : decode b_B_grow 79 = .ok (.ifCond .ne 18, 3) := by decide +kernel
theorem d_B_grow_82 : decode b_B_grow 82 = .ok (.aload_n 0, 1) := by decide +kernel
theorem d_B_grow_83 : decode b_B_grow 83 = .ok (.iload_n 1, 1) := by decide +kernel
theorem d_B_grow_84 : decode b_B_grow 84 = .ok (.putfield 49, 3) := by decide +kernel
theorem d_B_grow_87 : decode b_B_grow 87 = .ok (.aload_n 0, 1) := by decide +kernel
theorem d_B_grow_88 : decode b_B_grow 88 = .ok (.dup, 1) := by decide +kernel
theorem d_B_grow_89 : decode b_B_grow 89 = .ok (.getfield 52, 3) := by decide +kernel
theorem d_B_grow_92 : decode b_B_grow 92 = .ok (.iconst 1, 1) := by decide +kernel
theorem d_B_grow_93 : decode b_B_grow 93 = .ok (.iadd, 1) := by decide +kernel
theorem d_B_grow_94 : decode b_B_grow 94 = .ok (.putfield 52, 3) := by decide +kernel
theorem d_B_grow_97 : decode b_B_grow 97 = .ok (.aload_n 0, 1) := by decide +kernel
theorem d_B_grow_98 : decode b_B_grow 98 = .ok (.getfield 55, 3) := by decide +kernel
theorem d_B_grow_101 : decode b_B_grow 101 = .ok (.ifCond .ne 7, 3) := by decide +kernel
theorem d_B_grow_104 : decode b_B_grow 104 = .ok (.iconst 1, 1) := by decide +kernel
theorem d_B_grow_105 : decode b_B_grow 105 = .ok (.goto 4, 3) := by decide +kernel
theorem d_B_grow_108 : decode b_B_grow 108 = .ok (.iconst 0, 1) := by decide +kernel
theorem d_B_grow_109 : decode b_B_grow 109 = .ok (.ireturn, 1) := by decide +kernel
theorem kw_8 : (Cond.selects "TwoEndSearch$Ball" ⟨"TwoEndSearch$Ball", "reachFrom", "(II)V"⟩ ⟨"TwoEndSearch$Ball", "reachFrom", "(II)V"⟩ : Cond) ∈ bigW := bigW_of 8 (by decide +kernel) (by decide +kernel)
theorem kw_217 : (Cond.fieldLink "TwoEndSearch$Ball" 21 "TwoEndSearch$Ball" "moves" "LTwoEndSearch$Moves;" : Cond) ∈ bigW := bigW_of 217 (by decide +kernel) (by decide +kernel)
theorem kw_218 : (Cond.fieldLink "TwoEndSearch$Ball" 9 "TwoEndSearch$Ball" "graph" "LTwoEndSearch$Graph;" : Cond) ∈ bigW := bigW_of 218 (by decide +kernel) (by decide +kernel)
theorem kw_219 : (Cond.fieldLink "TwoEndSearch$Ball" 22 "TwoEndSearch$Ball" "firstWay" "I" : Cond) ∈ bigW := bigW_of 219 (by decide +kernel) (by decide +kernel)
theorem kw_355 : (Cond.methodLink "TwoEndSearch$Ball" 68 ⟨"TwoEndSearch$Ball", "reachFrom", "(II)V"⟩ : Cond) ∈ bigW := bigW_of 355 (by decide +kernel) (by decide +kernel)
theorem kw_357 : (Cond.instanceMethod ⟨"TwoEndSearch$Ball", "reachFrom", "(II)V"⟩ : Cond) ∈ bigW := bigW_of 357 (by decide +kernel) (by decide +kernel)
theorem kw_358 : (Cond.code ⟨"TwoEndSearch$Ball", "reachFrom", "(II)V"⟩ prog_2_method_10_code 6 none : Cond) ∈ bigW := bigW_of 358 (by decide +kernel) (by decide +kernel)
theorem kw_359 : (Cond.methodLink "TwoEndSearch$Ball" 83 ⟨"TwoEndSearch$Moves", "mostTimes", "(II)I"⟩ : Cond) ∈ bigW := bigW_of 359 (by decide +kernel) (by decide +kernel)
theorem kw_360 : (Cond.instanceMethod ⟨"TwoEndSearch$Moves", "mostTimes", "(II)I"⟩ : Cond) ∈ bigW := bigW_of 360 (by decide +kernel) (by decide +kernel)
theorem kw_361 : (Cond.selects "TwoEndSearch$Moves" ⟨"TwoEndSearch$Moves", "mostTimes", "(II)I"⟩ ⟨"TwoEndSearch$Moves", "mostTimes", "(II)I"⟩ : Cond) ∈ bigW := bigW_of 361 (by decide +kernel) (by decide +kernel)
theorem kw_362 : (Cond.code ⟨"TwoEndSearch$Moves", "mostTimes", "(II)I"⟩ prog_4_method_6_code 3 (some .int) : Cond) ∈ bigW := bigW_of 362 (by decide +kernel) (by decide +kernel)
theorem kw_363 : (Cond.methodLink "TwoEndSearch$Ball" 87 ⟨"TwoEndSearch$Graph", "follow", "(II)I"⟩ : Cond) ∈ bigW := bigW_of 363 (by decide +kernel) (by decide +kernel)
theorem kw_364 : (Cond.instanceMethod ⟨"TwoEndSearch$Graph", "follow", "(II)I"⟩ : Cond) ∈ bigW := bigW_of 364 (by decide +kernel) (by decide +kernel)
theorem kw_365 : (Cond.selects "TwoEndSearch$Graph" ⟨"TwoEndSearch$Graph", "follow", "(II)I"⟩ ⟨"TwoEndSearch$Graph", "follow", "(II)I"⟩ : Cond) ∈ bigW := bigW_of 365 (by decide +kernel) (by decide +kernel)
theorem kw_366 : (Cond.code ⟨"TwoEndSearch$Graph", "follow", "(II)I"⟩ prog_3_method_4_code 6 (some .int) : Cond) ∈ bigW := bigW_of 366 (by decide +kernel) (by decide +kernel)
def po_B_reachFrom (q : wz_Q) (ab ag am : Nat → Nat) (n b k fw : Nat) (rl rt : Nat → Nat) (fo : Nat → Int32) (M : Nat → Nat → Int32) (sg tu : Nat → Nat → Nat) (od : Nat → Nat) (a0 : Nat) (G : List Nat) (st sl : Nat → Int32) (L : Nat → Nat → Int32) (S : pz_S) (fa : Nat → Int32) (wy : Nat → Int64) (re : Nat → Int32) (ly dp : Nat) (me cm : Int32) (i x o : Nat) : wz_G → Prop := fun w => ∃ (G' : List Nat) (st' sl' : Nat → Int32) (L' : Nat → Nat → Int32) (S' : pz_S) (fa' : Nat → Int32) (wy' : Nat → Int64) (re' : Nat → Int32), w = [bl_W q ab (am 0) (ag 0) fw (pz_fact n) fa' wy' re' S'.1.length ly dp me cm, gq_W q ag (am 0) (pz_fact n) (2 ^ b) (32 - b) rl st' sl' G'.length, wz_rows 12 rl (fun i9 => .inl (q.1, pz_fact n, .inl (L' i9))), mv_W q am n k rt fo, wz_rows 12 rt (fun i9 => .inl (q.1, 8, .inl (M i9)))] ∧ S' = (pz_tm (bl_g n fw sg tu o) x (bl_mt me od o)).foldl (pz_vis (dp + 1) (S.2.2 x)) S ∧ (∃ Nw, G' = G ++ Nw) ∧ gq_ok n a0 b k sg tu G' st' sl' L' ∧ bl_ok (pz_fact n) G' S' fa' wy' re'
set_option maxHeartbeats 4000000 in
set_option maxRecDepth 100000 in
/-- all that a move, as often as a step may do it, brings from a state -/
theorem c_B_reachFrom (l : Launch) (D : va_G) (q : wz_Q) (ab ag am : Nat → Nat) (n b k fw : Nat) (rl rt : Nat → Nat) (fo : Nat → Int32) (M : Nat → Nat → Int32) (sg tu : Nat → Nat → Nat) (od : Nat → Nat) (a0 : Nat) (G : List Nat) (st sl : Nat → Int32) (L : Nat → Nat → Int32) (S : pz_S) (fa : Nat → Int32) (wy : Nat → Int64) (re : Nat → Int32) (ly dp : Nat) (me cm : Int32) (i x o : Nat) (hn : n ≤ 8) (hb0 : 0 < b) (hb30 : b ≤ 30) (hM : pz_fact n < 2 ^ b) (hk : k ≤ 6) (hfw : fw = 0 ∨ fw = 6) (hmv : mv_ok n k fo M sg tu od) (hok : gq_ok n a0 b k sg tu G st sl L) (hbl : bl_ok (pz_fact n) G S fa wy re) (ho : o < k) (hi : G[i]? = some x) (hxd : S.2.1 x = some dp) (hdp : dp < 2 ^ 20) (hlt : ∀ y e, S.2.1 y = some e → e < 2 ^ 21) : wz_Mv l y_B_reachFrom ws_B_reachFrom ({ frames := 3, cells := 0, slots := 0, locals := 72 } : Room) D q ([.ref (ab 0), .int (nI i), .int (nI o)] : List Value) [bl_W q ab (am 0) (ag 0) fw (pz_fact n) fa wy re S.1.length ly dp me cm, gq_W q ag (am 0) (pz_fact n) (2 ^ b) (32 - b) rl st sl G.length, wz_rows 12 rl (fun i9 => .inl (q.1, pz_fact n, .inl (L i9))), mv_W q am n k rt fo, wz_rows 12 rt (fun i9 => .inl (q.1, 8, .inl (M i9)))] (po_B_reachFrom q ab ag am n b k fw rl rt fo M sg tu od a0 G st sl L S fa wy re ly dp me cm i x o) 0 0 := by
  intro sz9
  refine wz_enter (cc := b_B_reachFrom) (maxL := 6) (ret := none) (Qc := fun A => (va_Qv (po_B_reachFrom q ab ag am n b k fw rl rt fo M sg tu od a0 G st sl L S fa wy re ly dp me cm i x o) (wz_At D q A) A)) (by decide) (Nat.le_of_ble_eq_true rfl) ?_
  intro p e s m below meth c A ls C hP hD hS hl
  obtain ⟨hx, hb, hr, hml, hlocks, hown, hts, hN, hK, hA, hnm⟩ := C
  have hown : s.vm.findClass "TwoEndSearch$Ball" = some m.cls := hown
  have hl : lv_has ls 6 [(0, .ref (ab 0)), (1, .int (nI i)), (2, .int (nI o))] := hl
  have hfl := pz_fact_le hn
  have hGl := gq_len hok
  have hil := (List.getElem?_eq_some_iff.mp hi).1
  have hmt := bl_mt_le (me := me) hmv ho
  have huw := bl_way hk hfw ho
  refine lv_aload_n hx hb d_B_reachFrom_0 rfl (lv_at hl 0 rfl) ?_
  refine wz_get (v := .ref (am 0)) (T := T_B) (N := 11) hx hb hts i_B hown hK hP 0 0 rfl rfl rfl 0 (by decide) (hts _ kw_217) rfl rfl d_B_reachFrom_1 ?_
  refine lv_aload_n hx hb d_B_reachFrom_4 rfl (lv_at hl 0 rfl) ?_
  refine wz_get (v := .int me) (T := T_B) (N := 11) hx hb hts i_B hown hK hP 0 0 rfl rfl rfl 9 (by decide) (hts _ kw_233) rfl rfl d_B_reachFrom_5 ?_
  refine lv_iload_n hx hb d_B_reachFrom_8 rfl (lv_at hl 2 rfl) ?_
  have hQ := wz_split (n := 5) (gc := [mv_W q am n k rt fo]) (gr := [bl_W q ab (am 0) (ag 0) fw (pz_fact n) fa wy re S.1.length ly dp me cm, gq_W q ag (am 0) (pz_fact n) (2 ^ b) (32 - b) rl st sl G.length, wz_rows 12 rl (fun i9 => .inl (q.1, pz_fact n, .inl (L i9))), wz_rows 12 rt (fun i9 => .inl (q.1, 8, .inl (M i9)))]) [3] [0, 1, 2, 4] rfl (by decide) rfl rfl hP hD
  refine wz_calli (va_runV (As := [.int me, .int (nI o)]) (rest := []) ⟨hx, hb, hml, hown, hts⟩ (c_M_mostTimes l D q am n k rt fo me o (by omega) _) (cwV 2 hts (wz_goodV kw_359 kw_360 kw_361 kw_32 kw_362) rfl rfl rfl (by decide +kernel) ⟨Nat.le_of_ble_eq_true rfl, Nat.le_of_ble_eq_true rfl⟩) (wz_preV (gi := 0) (k := 0) hN hK hQ wz_L_ok rfl rfl rfl) rfl rfl hl.1 rfl (lv_room (Nat.le_of_ble_eq_true rfl)) d_B_reachFrom_9 ⟨Nat.le_of_ble_eq_true rfl, Nat.le_of_ble_eq_true rfl⟩) hQ hS hA (fun v_9 gx H locs hp hP hD hS => ?_)
  obtain ⟨rfl, rfl⟩ := hp
  obtain ⟨hP, hD⟩ := wz_ord (n := 5) (gs' := [bl_W q ab (am 0) (ag 0) fw (pz_fact n) fa wy re S.1.length ly dp me cm, gq_W q ag (am 0) (pz_fact n) (2 ^ b) (32 - b) rl st sl G.length, wz_rows 12 rl (fun i9 => .inl (q.1, pz_fact n, .inl (L i9))), mv_W q am n k rt fo, wz_rows 12 rt (fun i9 => .inl (q.1, 8, .inl (M i9)))]) [1, 2, 3, 0, 4] rfl (by decide) rfl hP hD
  refine wz_topi (y := nI (bl_mt me od o)) (bl_mt_eq hmv ho) ?_
  refine lv_istore_n (lv' := [(3, .int (nI (bl_mt me od o))), (0, .ref (ab 0)), (1, .int (nI i)), (2, .int (nI o))]) hx hb d_B_reachFrom_12 rfl hl (by decide) rfl (fun ls hl => ?_)
  refine lv_iload_n hx hb d_B_reachFrom_13 rfl (lv_at hl 2 rfl) ?_
  refine lv_istore (lv' := [(4, .int (nI i)), (3, .int (nI (bl_mt me od o))), (0, .ref (ab 0)), (1, .int (nI i)), (2, .int (nI o))]) hx hb d_B_reachFrom_14 hl (by decide) rfl (fun ls hl => ?_)
  refine lv_iconst (v := nI 1) hx hb d_B_reachFrom_16 (by decide) ?_
  refine lv_istore (lv' := [(5, .int (nI 1)), (4, .int (nI i)), (3, .int (nI (bl_mt me od o))), (0, .ref (ab 0)), (1, .int (nI i)), (2, .int (nI o))]) hx hb d_B_reachFrom_17 hl (by decide) rfl (fun ls hl => ?_)
  have loop : ∀ (d : Nat) (t j : Nat) (G1 : List Nat) (st1 sl1 : Nat → Int32) (L1 : Nat → Nat → Int32) (S1 : pz_S) (fa1 : Nat → Int32) (wy1 : Nat → Int64) (re1 : Nat → Int32), t ≤ bl_mt me od o → bl_mt me od o + 1 ≤ t + d → G1[j]? = some (pz_it (bl_g n fw sg tu o) t x) → (∃ Nw, G1 = G ++ Nw) → gq_ok n a0 b k sg tu G1 st1 sl1 L1 → bl_ok (pz_fact n) G1 S1 fa1 wy1 re1 → S1 = (pz_tm (bl_g n fw sg tu o) x t).foldl (pz_vis (dp + 1) (S.2.2 x)) S → ∀ (H : Heap) (locs : List Loc) (ls : Array Slot), va_P D vwCl ([bl_W q ab (am 0) (ag 0) fw (pz_fact n) fa1 wy1 re1 S1.1.length ly dp me cm, gq_W q ag (am 0) (pz_fact n) (2 ^ b) (32 - b) rl st1 sl1 G1.length, wz_rows 12 rl (fun i9 => .inl (q.1, pz_fact n, .inl (L1 i9))), mv_W q am n k rt fo, wz_rows 12 rt (fun i9 => .inl (q.1, 8, .inl (M i9)))] : wz_G).flatten H → va_D A ([bl_W q ab (am 0) (ag 0) fw (pz_fact n) fa1 wy1 re1 S1.1.length ly dp me cm, gq_W q ag (am 0) (pz_fact n) (2 ^ b) (32 - b) rl st1 sl1 G1.length, wz_rows 12 rl (fun i9 => .inl (q.1, pz_fact n, .inl (L1 i9))), mv_W q am n k rt fo, wz_rows 12 rt (fun i9 => .inl (q.1, 8, .inl (M i9)))] : wz_G).flatten → va_S A s.heap H locs → lv_has ls 6 [(0, .ref (ab 0)), (1, .int (nI i)), (2, .int (nI o)), (3, .int (nI (bl_mt me od o))), (4, .int (nI j)), (5, .int (nI (t + 1)))] → W p l e ({ frames := 3, cells := 0, slots := 0, locals := 72 } : Room) s m ([.ref (ab 0), .int (nI i), .int (nI o)] : List Value).toArray below meth c H locs 0 0 (MQ below (va_Qv (po_B_reachFrom q ab ag am n b k fw rl rt fo M sg tu od a0 G st sl L S fa wy re ly dp me cm i x o) (wz_At D q A) A) ([.ref (ab 0), .int (nI i), .int (nI o)] : List Value).toArray s 0 0 A) (F0 m 19 ls []) := by
    intro d
    induction d with
    | zero =>
      intro t j G1 st1 sl1 L1 S1 fa1 wy1 re1 ht hd hj hp1 hok1 hbl1 hS1
      omega
    | succ d ih =>
      intro t j G1 st1 sl1 L1 S1 fa1 wy1 re1 ht hd hj hp1 hok1 hbl1 hS1 H locs ls hP hD hS hl
      refine lv_iload hx hb d_B_reachFrom_19 (lv_at hl 5 rfl) ?_
      refine lv_iload_n hx hb d_B_reachFrom_21 rfl (lv_at hl 3 rfl) ?_
      refine wz_gt (tgt := 103) hx hb d_B_reachFrom_22 (by decide) (by omega) (by omega) (fun hc => ?_) (fun hc => ?_)
      · skip
        have hte : t = bl_mt me od o := by omega
        subst hte
        exact wz_vret hx hb hr hlocks hK hP hD hS d_B_reachFrom_103 ⟨G1, st1, sl1, L1, S1, fa1, wy1, re1, rfl, hS1, hp1, hok1, hbl1⟩
      · skip
        have hk1 := pz_fold_keep (l := pz_tm (bl_g n fw sg tu o) x t) (w := S.2.2 x) hxd (show dp ≠ dp + 1 by omega)
        rw [← hS1] at hk1
        have hlt1 : ∀ y e, S1.2.1 y = some e → e < 2 ^ 21 := by rw [hS1]; exact pz_fold_lt hlt (by omega)
        refine lv_aload_n hx hb d_B_reachFrom_25 rfl (lv_at hl 0 rfl) ?_
        refine wz_get (v := .ref (ag 0)) (T := T_B) (N := 11) hx hb hts i_B hown hK hP 0 0 rfl rfl rfl 1 (by decide) (hts _ kw_218) rfl rfl d_B_reachFrom_26 ?_
        refine lv_aload_n hx hb d_B_reachFrom_29 rfl (lv_at hl 0 rfl) ?_
        refine wz_get (v := .int (nI fw)) (T := T_B) (N := 11) hx hb hts i_B hown hK hP 0 0 rfl rfl rfl 2 (by decide) (hts _ kw_219) rfl rfl d_B_reachFrom_30 ?_
        refine lv_iload_n hx hb d_B_reachFrom_33 rfl (lv_at hl 2 rfl) ?_
        refine lv_iadd hx hb d_B_reachFrom_34 ?_
        refine wz_topi (y := nI (fw + o)) (nI_add fw o) ?_
        refine lv_iload hx hb d_B_reachFrom_35 (lv_at hl 4 rfl) ?_
        have hQ := wz_split (n := 5) (gc := [gq_W q ag (am 0) (pz_fact n) (2 ^ b) (32 - b) rl st1 sl1 G1.length, wz_rows 12 rl (fun i9 => .inl (q.1, pz_fact n, .inl (L1 i9))), mv_W q am n k rt fo, wz_rows 12 rt (fun i9 => .inl (q.1, 8, .inl (M i9)))]) (gr := [bl_W q ab (am 0) (ag 0) fw (pz_fact n) fa1 wy1 re1 S1.1.length ly dp me cm]) [1, 2, 3, 4] [0] rfl (by decide) rfl rfl hP hD
        refine wz_calli (va_runV (As := [.int (nI (fw + o)), .int (nI j)]) (rest := []) ⟨hx, hb, hml, hown, hts⟩ (c_G_follow l D q ag am n b k rl rt fo st1 sl1 L1 sg tu G1 M od a0 (fw + o) j (pz_it (bl_g n fw sg tu o) t x) hn hb0 hb30 hM hk hok1 hmv huw hj _) (cwV 2 hts (wz_goodV kw_363 kw_364 kw_365 kw_35 kw_366) rfl rfl rfl (by decide +kernel) ⟨Nat.le_of_ble_eq_true rfl, Nat.le_of_ble_eq_true rfl⟩) (wz_preV (gi := 0) (k := 0) hN hK hQ wz_L_ok rfl rfl rfl) rfl rfl hl.1 rfl (lv_room (Nat.le_of_ble_eq_true rfl)) d_B_reachFrom_37 ⟨Nat.le_of_ble_eq_true rfl, Nat.le_of_ble_eq_true rfl⟩) hQ hS hA (fun v_37 gx H locs hp hP hD hS => ?_)
        obtain ⟨G2, st2, sl2, L2, c9, j2, rfl, rfl, rfl, hj2, hNw2, hok2⟩ := hp
        obtain ⟨hP, hD⟩ := wz_ord (n := 5) (gs' := [bl_W q ab (am 0) (ag 0) fw (pz_fact n) fa1 wy1 re1 S1.1.length ly dp me cm, gq_W q ag (am 0) (pz_fact n) (2 ^ b) (32 - b) rl st2 sl2 G2.length, wz_rows 12 rl (fun i9 => .inl (q.1, pz_fact n, .inl (L2 i9))), mv_W q am n k rt fo, wz_rows 12 rt (fun i9 => .inl (q.1, 8, .inl (M i9)))]) [4, 0, 1, 2, 3] rfl (by decide) rfl hP hD
        obtain ⟨Na, hNa⟩ := hp1
        obtain ⟨Nb, hNb⟩ := hNw2
        have hj2 : G2[j2]? = some (pz_it (bl_g n fw sg tu o) (t + 1) x) := hj2
        have hbl2 := bl_more hbl1 ⟨Nb, hNb⟩ hok2.1 (gq_len hok2)
        have hGl2 := gq_len hok2
        have hj2l := (List.getElem?_eq_some_iff.mp hj2).1
        have hi2 : G2[i]? = some x := by rw [hNb, hNa, List.append_assoc, List.getElem?_append_left hil]; exact hi
        have hi2l := (List.getElem?_eq_some_iff.mp hi2).1
        generalize hcd : pz_it (bl_g n fw sg tu o) (t + 1) x = cd at hj2
        refine lv_istore (lv' := [(4, .int (nI j2)), (0, .ref (ab 0)), (1, .int (nI i)), (2, .int (nI o)), (3, .int (nI (bl_mt me od o))), (5, .int (nI (t + 1)))]) hx hb d_B_reachFrom_40 hl (by decide) rfl (fun ls hl => ?_)
        refine lv_aload_n hx hb d_B_reachFrom_42 rfl (lv_at hl 1 rfl) ?_
        refine wz_get (v := .ref (ab 1)) (T := T_B) (N := 11) hx hb hts i_B hown hK hP 0 0 rfl rfl rfl 3 (by decide) (hts _ kw_220) rfl rfl d_B_reachFrom_43 ?_
        refine lv_iload hx hb d_B_reachFrom_46 (lv_at hl 0 rfl) ?_
        refine wz_iald hx hb hK hP 0 1 (j := j2) rfl rfl (by omega) (by omega) d_B_reachFrom_48 ?_
        refine wz_topi (y := (bl_fo (S1.2.1 cd))) (hbl2.2.1 j2 cd hj2).1 ?_
        refine lv_iconst (v := (-1)) hx hb d_B_reachFrom_49 (by decide) ?_
        refine lv_icmp_ne (tgt := 65) hx hb d_B_reachFrom_50 (by decide) (fun hc2 => ?_) (fun hc2 => ?_)
        · skip
          have hS2 : S1 = pz_take (dp + 1) S1 cd := (pz_take_no (fun q => hc2 (by rw [q]; rfl))).symm
          have hbl3 := hbl2
          have hlt2 : ∀ y e, S1.2.1 y = some e → e < 2 ^ 21 := by rw [hS2]; exact pz_take_lt hlt1 (by omega)
          have hk2 := pz_take_keep (d := dp + 1) (c := cd) hk1.1
          rw [← hS2] at hk2
          have hwi : wy1 i = S.2.2 x := by rw [(hbl3.2.1 i x hi2).2 (pz_sn hk2.1), hk2.2, hk1.2]
          refine lv_aload_n hx hb d_B_reachFrom_65 rfl (lv_at hl 1 rfl) ?_
          refine wz_get (v := .ref (ab 1)) (T := T_B) (N := 11) hx hb hts i_B hown hK hP 0 0 rfl rfl rfl 3 (by decide) (hts _ kw_220) rfl rfl d_B_reachFrom_66 ?_
          refine lv_iload hx hb d_B_reachFrom_69 (lv_at hl 0 rfl) ?_
          refine wz_iald hx hb hK hP 0 1 (j := j2) rfl rfl (by omega) (by omega) d_B_reachFrom_71 ?_
          refine wz_topi (y := (bl_fo (S1.2.1 cd))) (hbl3.2.1 j2 cd hj2).1 ?_
          refine lv_aload_n hx hb d_B_reachFrom_72 rfl (lv_at hl 1 rfl) ?_
          refine wz_get (v := .int (nI dp)) (T := T_B) (N := 11) hx hb hts i_B hown hK hP 0 0 rfl rfl rfl 8 (by decide) (hts _ kw_230) rfl rfl d_B_reachFrom_73 ?_
          refine lv_iconst (v := nI 1) hx hb d_B_reachFrom_76 (by decide) ?_
          refine lv_iadd hx hb d_B_reachFrom_77 ?_
          refine wz_topi (y := nI (dp + 1)) (nI_add dp 1) ?_
          refine lv_icmp_ne (tgt := 97) hx hb d_B_reachFrom_78 (by decide) (fun hc3 => ?_) (fun hc3 => ?_)
          · skip
            refine lv_iinc (v := nI ((t + 1) + 1)) (lv' := [(5, .int (nI ((t + 1) + 1))), (4, .int (nI j2)), (0, .ref (ab 0)), (1, .int (nI i)), (2, .int (nI o)), (3, .int (nI (bl_mt me od o)))]) hx hb d_B_reachFrom_97 hl (k := 5) rfl (nI_1 (t + 1)) (by decide) rfl (fun ls hl => ?_)
            refine lv_goto (tgt := 19) hx hb d_B_reachFrom_100 (by decide) ?_
            exact ih (t + 1) j2 G2 st2 sl2 L2 S1 (fa1) (wy1) (re1) (by omega) (by omega) (by rw [hcd]; exact hj2) ⟨Na ++ Nb, by rw [hNb, hNa, List.append_assoc]⟩ hok2 hbl3 (by rw [pz_tm_fold, ← hS1, hcd, ← hS2]; exact (pz_bump_no (fun q => hc3 ((bl_fo_s (fun e he => Nat.lt_trans (hlt2 _ e he) (by decide)) (by omega)).mpr q))).symm) _ _ _ hP hD hS (lv_sub hl [2, 3, 4, 5, 1, 0] rfl)
          · skip
            refine lv_aload_n hx hb d_B_reachFrom_81 rfl (lv_at hl 1 rfl) ?_
            refine wz_get (v := .ref (ab 2)) (T := T_B) (N := 11) hx hb hts i_B hown hK hP 0 0 rfl rfl rfl 4 (by decide) (hts _ kw_222) rfl rfl d_B_reachFrom_82 ?_
            refine lv_iload hx hb d_B_reachFrom_85 (lv_at hl 0 rfl) ?_
            refine lv_dup2_11 hx hb d_B_reachFrom_87 rfl rfl ?_
            refine wz_lald hx hb hK hP 0 2 (j := j2) rfl rfl (by omega) (by omega) d_B_reachFrom_88 ?_
            refine lv_aload_n hx hb d_B_reachFrom_89 rfl (lv_at hl 1 rfl) ?_
            refine wz_get (v := .ref (ab 2)) (T := T_B) (N := 11) hx hb hts i_B hown hK hP 0 0 rfl rfl rfl 4 (by decide) (hts _ kw_222) rfl rfl d_B_reachFrom_90 ?_
            refine lv_iload_n hx hb d_B_reachFrom_93 rfl (lv_at hl 2 rfl) ?_
            refine wz_lald hx hb hK hP 0 2 (j := i) rfl rfl (by omega) (by omega) d_B_reachFrom_94 ?_
            refine wz_topl (y := (S.2.2 x)) hwi ?_
            refine lv_ladd hx hb d_B_reachFrom_95 ?_
            refine wz_last (gs' := [bl_W q ab (am 0) (ag 0) fw (pz_fact n) fa1 (vp_updL wy1 j2 ((wy1 j2) + (S.2.2 x))) re1 S1.1.length ly dp me cm, gq_W q ag (am 0) (pz_fact n) (2 ^ b) (32 - b) rl st2 sl2 G2.length, wz_rows 12 rl (fun i9 => .inl (q.1, pz_fact n, .inl (L2 i9))), mv_W q am n k rt fo, wz_rows 12 rt (fun i9 => .inl (q.1, 8, .inl (M i9)))]) hx hb hK hP hD hS 0 2 (j := j2) rfl rfl (by omega) (by omega) d_B_reachFrom_96 rfl (fun H locs hP hD hS => ?_)
            refine lv_iinc (v := nI ((t + 1) + 1)) (lv' := [(5, .int (nI ((t + 1) + 1))), (4, .int (nI j2)), (0, .ref (ab 0)), (1, .int (nI i)), (2, .int (nI o)), (3, .int (nI (bl_mt me od o)))]) hx hb d_B_reachFrom_97 hl (k := 5) rfl (nI_1 (t + 1)) (by decide) rfl (fun ls hl => ?_)
            refine lv_goto (tgt := 19) hx hb d_B_reachFrom_100 (by decide) ?_
            have hb4 := bl_bump (w := S.2.2 x) hbl3 hok2.1 hj2 ((bl_fo_s (fun e he => Nat.lt_trans (hlt2 _ e he) (by decide)) (by omega)).mp hc3)
            have e9 : S1.1.length = (pz_bump (dp + 1) (S.2.2 x) S1 cd).1.length := by rw [pz_bump_len]
            rw [e9] at hP hD
            exact ih (t + 1) j2 G2 st2 sl2 L2 (pz_bump (dp + 1) (S.2.2 x) S1 cd) (fa1) (vp_updL (wy1) j2 ((wy1) j2 + S.2.2 x)) (re1) (by omega) (by omega) (by rw [hcd]; exact hj2) ⟨Na ++ Nb, by rw [hNb, hNa, List.append_assoc]⟩ hok2 hb4 (by rw [pz_tm_fold, ← hS1, hcd, ← hS2]) _ _ _ hP hD hS (lv_sub hl [2, 3, 4, 5, 1, 0] rfl)
        · skip
          have hnone : S1.2.1 cd = none := (bl_fo_n (fun e he => Nat.lt_trans (hlt1 _ e he) (by decide))).mp hc2
          have hnew := bl_new hbl2 (List.mem_of_getElem? hj2) hnone
          refine lv_aload_n hx hb d_B_reachFrom_53 rfl (lv_at hl 1 rfl) ?_
          refine lv_iload hx hb d_B_reachFrom_54 (lv_at hl 0 rfl) ?_
          refine lv_aload_n hx hb d_B_reachFrom_56 rfl (lv_at hl 1 rfl) ?_
          refine wz_get (v := .int (nI dp)) (T := T_B) (N := 11) hx hb hts i_B hown hK hP 0 0 rfl rfl rfl 8 (by decide) (hts _ kw_230) rfl rfl d_B_reachFrom_57 ?_
          refine lv_iconst (v := nI 1) hx hb d_B_reachFrom_60 (by decide) ?_
          refine lv_iadd hx hb d_B_reachFrom_61 ?_
          refine wz_topi (y := nI (dp + 1)) (nI_add dp 1) ?_
          have hQ := wz_split (n := 5) (gc := [bl_W q ab (am 0) (ag 0) fw (pz_fact n) fa1 wy1 re1 S1.1.length ly dp me cm]) (gr := [gq_W q ag (am 0) (pz_fact n) (2 ^ b) (32 - b) rl st2 sl2 G2.length, wz_rows 12 rl (fun i9 => .inl (q.1, pz_fact n, .inl (L2 i9))), mv_W q am n k rt fo, wz_rows 12 rt (fun i9 => .inl (q.1, 8, .inl (M i9)))]) [0] [1, 2, 3, 4] rfl (by decide) rfl rfl hP hD
          refine wz_callv (va_runV (As := [.int (nI j2), .int (nI (dp + 1))]) (rest := []) ⟨hx, hb, hml, hown, hts⟩ (c_B_take l D q ab (am 0) (ag 0) fw (pz_fact n) fa1 wy1 re1 S1.1.length ly dp me cm j2 (dp + 1) (by omega) (by omega) (by omega) _) (cwV 2 hts (wz_goodV kw_323 kw_324 kw_325 kw_36 kw_326) rfl rfl rfl (by decide +kernel) ⟨Nat.le_of_ble_eq_true rfl, Nat.le_of_ble_eq_true rfl⟩) (wz_preV (gi := 0) (k := 0) hN hK hQ wz_L_ok rfl rfl rfl) rfl rfl hl.1 rfl (lv_room (Nat.le_of_ble_eq_true rfl)) d_B_reachFrom_62 ⟨Nat.le_of_ble_eq_true rfl, Nat.le_of_ble_eq_true rfl⟩) hQ hS hA (fun gx H locs hp hP hD hS => ?_)
          have hp : gx = _ := hp
          subst hp
          obtain ⟨hP, hD⟩ := wz_ord (n := 5) (gs' := [bl_W q ab (am 0) (ag 0) fw (pz_fact n) (upd fa1 j2 (nI (dp + 1))) (vp_updL wy1 j2 0) (upd re1 S1.1.length (nI j2)) (S1.1.length + 1) ly dp me cm, gq_W q ag (am 0) (pz_fact n) (2 ^ b) (32 - b) rl st2 sl2 G2.length, wz_rows 12 rl (fun i9 => .inl (q.1, pz_fact n, .inl (L2 i9))), mv_W q am n k rt fo, wz_rows 12 rt (fun i9 => .inl (q.1, 8, .inl (M i9)))]) [0, 1, 2, 3, 4] rfl (by decide) rfl hP hD
          have hbl3 := bl_take (d := dp + 1) hbl2 hok2.1 hj2 hnone
          rw [← bl_take_len (d := dp + 1) hnone] at hP hD
          obtain ⟨S2, hS2⟩ : ∃ S2, S2 = pz_take (dp + 1) S1 cd := ⟨_, rfl⟩
          rw [← hS2] at hP hD hbl3
          have hlt2 : ∀ y e, S2.2.1 y = some e → e < 2 ^ 21 := by rw [hS2]; exact pz_take_lt hlt1 (by omega)
          have hk2 := pz_take_keep (d := dp + 1) (c := cd) hk1.1
          rw [← hS2] at hk2
          have hwi : (vp_updL wy1 j2 0) i = S.2.2 x := by rw [(hbl3.2.1 i x hi2).2 (pz_sn hk2.1), hk2.2, hk1.2]
          refine lv_aload_n hx hb d_B_reachFrom_65 rfl (lv_at hl 1 rfl) ?_
          refine wz_get (v := .ref (ab 1)) (T := T_B) (N := 11) hx hb hts i_B hown hK hP 0 0 rfl rfl rfl 3 (by decide) (hts _ kw_220) rfl rfl d_B_reachFrom_66 ?_
          refine lv_iload hx hb d_B_reachFrom_69 (lv_at hl 0 rfl) ?_
          refine wz_iald hx hb hK hP 0 1 (j := j2) rfl rfl (by omega) (by omega) d_B_reachFrom_71 ?_
          refine wz_topi (y := (bl_fo (S2.2.1 cd))) (hbl3.2.1 j2 cd hj2).1 ?_
          refine lv_aload_n hx hb d_B_reachFrom_72 rfl (lv_at hl 1 rfl) ?_
          refine wz_get (v := .int (nI dp)) (T := T_B) (N := 11) hx hb hts i_B hown hK hP 0 0 rfl rfl rfl 8 (by decide) (hts _ kw_230) rfl rfl d_B_reachFrom_73 ?_
          refine lv_iconst (v := nI 1) hx hb d_B_reachFrom_76 (by decide) ?_
          refine lv_iadd hx hb d_B_reachFrom_77 ?_
          refine wz_topi (y := nI (dp + 1)) (nI_add dp 1) ?_
          refine lv_icmp_ne (tgt := 97) hx hb d_B_reachFrom_78 (by decide) (fun hc3 => ?_) (fun hc3 => ?_)
          · skip
            refine lv_iinc (v := nI ((t + 1) + 1)) (lv' := [(5, .int (nI ((t + 1) + 1))), (4, .int (nI j2)), (0, .ref (ab 0)), (1, .int (nI i)), (2, .int (nI o)), (3, .int (nI (bl_mt me od o)))]) hx hb d_B_reachFrom_97 hl (k := 5) rfl (nI_1 (t + 1)) (by decide) rfl (fun ls hl => ?_)
            refine lv_goto (tgt := 19) hx hb d_B_reachFrom_100 (by decide) ?_
            exact ih (t + 1) j2 G2 st2 sl2 L2 S2 (upd fa1 j2 (nI (dp + 1))) ((vp_updL wy1 j2 0)) (upd re1 S1.1.length (nI j2)) (by omega) (by omega) (by rw [hcd]; exact hj2) ⟨Na ++ Nb, by rw [hNb, hNa, List.append_assoc]⟩ hok2 hbl3 (by rw [pz_tm_fold, ← hS1, hcd, ← hS2]; exact (pz_bump_no (fun q => hc3 ((bl_fo_s (fun e he => Nat.lt_trans (hlt2 _ e he) (by decide)) (by omega)).mpr q))).symm) _ _ _ hP hD hS (lv_sub hl [2, 3, 4, 5, 1, 0] rfl)
          · skip
            refine lv_aload_n hx hb d_B_reachFrom_81 rfl (lv_at hl 1 rfl) ?_
            refine wz_get (v := .ref (ab 2)) (T := T_B) (N := 11) hx hb hts i_B hown hK hP 0 0 rfl rfl rfl 4 (by decide) (hts _ kw_222) rfl rfl d_B_reachFrom_82 ?_
            refine lv_iload hx hb d_B_reachFrom_85 (lv_at hl 0 rfl) ?_
            refine lv_dup2_11 hx hb d_B_reachFrom_87 rfl rfl ?_
            refine wz_lald hx hb hK hP 0 2 (j := j2) rfl rfl (by omega) (by omega) d_B_reachFrom_88 ?_
            refine lv_aload_n hx hb d_B_reachFrom_89 rfl (lv_at hl 1 rfl) ?_
            refine wz_get (v := .ref (ab 2)) (T := T_B) (N := 11) hx hb hts i_B hown hK hP 0 0 rfl rfl rfl 4 (by decide) (hts _ kw_222) rfl rfl d_B_reachFrom_90 ?_
            refine lv_iload_n hx hb d_B_reachFrom_93 rfl (lv_at hl 2 rfl) ?_
            refine wz_lald hx hb hK hP 0 2 (j := i) rfl rfl (by omega) (by omega) d_B_reachFrom_94 ?_
            refine wz_topl (y := (S.2.2 x)) hwi ?_
            refine lv_ladd hx hb d_B_reachFrom_95 ?_
            refine wz_last (gs' := [bl_W q ab (am 0) (ag 0) fw (pz_fact n) (upd fa1 j2 (nI (dp + 1))) (vp_updL (vp_updL wy1 j2 0) j2 (((vp_updL wy1 j2 0) j2) + (S.2.2 x))) (upd re1 S1.1.length (nI j2)) S2.1.length ly dp me cm, gq_W q ag (am 0) (pz_fact n) (2 ^ b) (32 - b) rl st2 sl2 G2.length, wz_rows 12 rl (fun i9 => .inl (q.1, pz_fact n, .inl (L2 i9))), mv_W q am n k rt fo, wz_rows 12 rt (fun i9 => .inl (q.1, 8, .inl (M i9)))]) hx hb hK hP hD hS 0 2 (j := j2) rfl rfl (by omega) (by omega) d_B_reachFrom_96 rfl (fun H locs hP hD hS => ?_)
            refine lv_iinc (v := nI ((t + 1) + 1)) (lv' := [(5, .int (nI ((t + 1) + 1))), (4, .int (nI j2)), (0, .ref (ab 0)), (1, .int (nI i)), (2, .int (nI o)), (3, .int (nI (bl_mt me od o)))]) hx hb d_B_reachFrom_97 hl (k := 5) rfl (nI_1 (t + 1)) (by decide) rfl (fun ls hl => ?_)
            refine lv_goto (tgt := 19) hx hb d_B_reachFrom_100 (by decide) ?_
            have hb4 := bl_bump (w := S.2.2 x) hbl3 hok2.1 hj2 ((bl_fo_s (fun e he => Nat.lt_trans (hlt2 _ e he) (by decide)) (by omega)).mp hc3)
            have e9 : S2.1.length = (pz_bump (dp + 1) (S.2.2 x) S2 cd).1.length := by rw [pz_bump_len]
            rw [e9] at hP hD
            exact ih (t + 1) j2 G2 st2 sl2 L2 (pz_bump (dp + 1) (S.2.2 x) S2 cd) (upd fa1 j2 (nI (dp + 1))) (vp_updL ((vp_updL wy1 j2 0)) j2 (((vp_updL wy1 j2 0)) j2 + S.2.2 x)) (upd re1 S1.1.length (nI j2)) (by omega) (by omega) (by rw [hcd]; exact hj2) ⟨Na ++ Nb, by rw [hNb, hNa, List.append_assoc]⟩ hok2 hb4 (by rw [pz_tm_fold, ← hS1, hcd, ← hS2]) _ _ _ hP hD hS (lv_sub hl [2, 3, 4, 5, 1, 0] rfl)
  exact loop (bl_mt me od o + 1) 0 i G st sl L S fa wy re (by omega) (by omega) hi ⟨[], by simp⟩ hok hbl rfl _ _ _ hP hD hS (lv_sub hl [3, 4, 5, 2, 1, 0] rfl)
def po_B_grow (q : wz_Q) (ab ag am : Nat → Nat) (n b k fw : Nat) (rl rt : Nat → Nat) (fo : Nat → Int32) (M : Nat → Nat → Int32) (sg tu : Nat → Nat → Nat) (od : Nat → Nat) (a0 : Nat) (G : List Nat) (st sl : Nat → Int32) (L : Nat → Nat → Int32) (S : pz_S) (fa : Nat → Int32) (wy : Nat → Int64) (re : Nat → Int32) (ly dp : Nat) (me cm : Int32) (r0 : Nat) (cb : Bool) : Int32 → wz_G → Prop := fun v w => ∃ (G' : List Nat) (st' sl' : Nat → Int32) (L' : Nat → Nat → Int32) (S' : pz_S) (fa' : Nat → Int32) (wy' : Nat → Int64) (re' : Nat → Int32) (ly' dp' : Nat) (cb' : Bool), w = [bl_W q ab (am 0) (ag 0) fw (pz_fact n) fa' wy' re' S'.1.length ly' dp' me (bl_b cb'), gq_W q ag (am 0) (pz_fact n) (2 ^ b) (32 - b) rl st' sl' G'.length, wz_rows 12 rl (fun i9 => .inl (q.1, pz_fact n, .inl (L' i9))), mv_W q am n k rt fo, wz_rows 12 rt (fun i9 => .inl (q.1, 8, .inl (M i9)))] ∧ pz_ball (bl_s n k fw sg tu od me) r0 ly' dp' cb' S' ∧ dp' ≤ ly' ∧ ((cb' = true ∧ v = nI 0 ∧ dp' = dp) ∨ (cb' = false ∧ cb = false ∧ v = nI 1 ∧ dp' = dp + 1)) ∧ (∃ Nw, G' = G ++ Nw) ∧ gq_ok n a0 b k sg tu G' st' sl' L' ∧ bl_ok (pz_fact n) G' S' fa' wy' re'
set_option maxHeartbeats 4000000 in
set_option maxRecDepth 100000 in
/-- the next layer -/
theorem c_B_grow (l : Launch) (D : va_G) (q : wz_Q) (ab ag am : Nat → Nat) (n b k fw : Nat) (rl rt : Nat → Nat) (fo : Nat → Int32) (M : Nat → Nat → Int32) (sg tu : Nat → Nat → Nat) (od : Nat → Nat) (a0 : Nat) (G : List Nat) (st sl : Nat → Int32) (L : Nat → Nat → Int32) (S : pz_S) (fa : Nat → Int32) (wy : Nat → Int64) (re : Nat → Int32) (ly dp : Nat) (me cm : Int32) (r0 : Nat) (cb : Bool) (hn : n ≤ 8) (hb0 : 0 < b) (hb30 : b ≤ 30) (hM : pz_fact n < 2 ^ b) (hk : k ≤ 6) (hfw : fw = 0 ∨ fw = 6) (hmv : mv_ok n k fo M sg tu od) (hok : gq_ok n a0 b k sg tu G st sl L) (hbl : bl_ok (pz_fact n) G S fa wy re) (hball : pz_ball (bl_s n k fw sg tu od me) r0 ly dp cb S) (hcm : cm = bl_b cb) (hdl : dp ≤ ly) : wz_Mi l y_B_grow ws_B_grow ({ frames := 4, cells := 0, slots := 0, locals := 97 } : Room) D q ([.ref (ab 0)] : List Value) [bl_W q ab (am 0) (ag 0) fw (pz_fact n) fa wy re S.1.length ly dp me cm, gq_W q ag (am 0) (pz_fact n) (2 ^ b) (32 - b) rl st sl G.length, wz_rows 12 rl (fun i9 => .inl (q.1, pz_fact n, .inl (L i9))), mv_W q am n k rt fo, wz_rows 12 rt (fun i9 => .inl (q.1, 8, .inl (M i9)))] (po_B_grow q ab ag am n b k fw rl rt fo M sg tu od a0 G st sl L S fa wy re ly dp me cm r0 cb) 0 0 := by
  intro sz9
  refine wz_enter (cc := b_B_grow) (maxL := 4) (ret := (some .boolean)) (Qc := fun A => (va_Qi (po_B_grow q ab ag am n b k fw rl rt fo M sg tu od a0 G st sl L S fa wy re ly dp me cm r0 cb) (wz_At D q A) A)) (by decide) (Nat.le_of_ble_eq_true rfl) ?_
  intro p e s m below meth c A ls C hP hD hS hl
  obtain ⟨hx, hb, hr, hml, hlocks, hown, hts, hN, hK, hA, hnm⟩ := C
  have hown : s.vm.findClass "TwoEndSearch$Ball" = some m.cls := hown
  have hl : lv_has ls 4 [(0, .ref (ab 0))] := hl
  have hfl := pz_fact_le hn
  have hGl := gq_len hok
  have hSl := bl_len hbl
  have hlS := hball.2.1
  subst hcm
  refine lv_aload_n hx hb d_B_grow_0 rfl (lv_at hl 0 rfl) ?_
  refine wz_get (v := .int (nI S.1.length)) (T := T_B) (N := 11) hx hb hts i_B hown hK hP 0 0 rfl rfl rfl 6 (by decide) (hts _ kw_226) rfl rfl d_B_grow_1 ?_
  refine lv_istore_n (lv' := [(1, .int (nI S.1.length)), (0, .ref (ab 0))]) hx hb d_B_grow_4 rfl hl (by decide) rfl (fun ls hl => ?_)
  refine lv_aload_n hx hb d_B_grow_5 rfl (lv_at hl 1 rfl) ?_
  refine wz_get (v := .int (nI ly)) (T := T_B) (N := 11) hx hb hts i_B hown hK hP 0 0 rfl rfl rfl 7 (by decide) (hts _ kw_228) rfl rfl d_B_grow_6 ?_
  refine lv_istore_n (lv' := [(2, .int (nI ly)), (1, .int (nI S.1.length)), (0, .ref (ab 0))]) hx hb d_B_grow_9 rfl hl (by decide) rfl (fun ls hl => ?_)
  cases cb with
  | true =>
    refine lv_iload_n hx hb d_B_grow_10 rfl (lv_at hl 0 rfl) ?_
    refine lv_iload_n hx hb d_B_grow_11 rfl (lv_at hl 1 rfl) ?_
    refine wz_ge (tgt := 58) hx hb d_B_grow_12 (by decide) (by omega) (by omega) (fun hc => ?_) (fun hc => ?_)
    · skip
      exact absurd hc (by omega)
    · skip
      refine lv_aload_n hx hb d_B_grow_15 rfl (lv_at hl 2 rfl) ?_
      refine wz_get (v := .int (bl_b true)) (T := T_B) (N := 11) hx hb hts i_B hown hK hP 0 0 rfl rfl rfl 10 (by decide) (hts _ kw_235) rfl rfl d_B_grow_16 ?_
      refine lv_if_ne (tgt := 58) hx hb d_B_grow_19 (by decide) (fun hc2 => ?_) (fun hc2 => ?_)
      · skip
        have hfull : S.1.length = S.1.length := rfl
        refine lv_aload_n hx hb d_B_grow_58 rfl (lv_at hl 2 rfl) ?_
        refine lv_aload_n hx hb d_B_grow_59 rfl (lv_at hl 2 rfl) ?_
        refine wz_get (v := .int (nI S.1.length)) (T := T_B) (N := 11) hx hb hts i_B hown hK hP 0 0 rfl rfl rfl 6 (by decide) (hts _ kw_226) rfl rfl d_B_grow_60 ?_
        refine lv_iload_n hx hb d_B_grow_63 rfl (lv_at hl 1 rfl) ?_
        refine wz_ne (tgt := 71) hx hb d_B_grow_64 (by decide) (by omega) (by omega) (fun hc7 => ?_) (fun hc7 => ?_)
        · skip
          exact absurd hfull hc7
        · skip
          refine lv_iconst (v := nI 1) hx hb d_B_grow_67 (by decide) ?_
          refine lv_goto (tgt := 72) hx hb d_B_grow_68 (by decide) ?_
          refine wz_put (gs' := [bl_W q ab (am 0) (ag 0) fw (pz_fact n) fa wy re S.1.length ly dp me (nI 1), gq_W q ag (am 0) (pz_fact n) (2 ^ b) (32 - b) rl st sl G.length, wz_rows 12 rl (fun i9 => .inl (q.1, pz_fact n, .inl (L i9))), mv_W q am n k rt fo, wz_rows 12 rt (fun i9 => .inl (q.1, 8, .inl (M i9)))]) (v := .int (nI 1)) (T := T_B) (N := 11) hx hb hts i_B t_B t_B_ok n_B hown hK hP hD hS 0 0 rfl rfl rfl 10 (by decide) (hts _ kw_235) rfl rfl (ty := t_B 10) (by decide +kernel) rfl rfl (Nat.le_of_ble_eq_true rfl) d_B_grow_72 rfl (fun H locs hP hD hS => ?_)
          refine lv_aload_n hx hb d_B_grow_75 rfl (lv_at hl 2 rfl) ?_
          refine wz_get (v := .int (nI 1)) (T := T_B) (N := 11) hx hb hts i_B hown hK hP 0 0 rfl rfl rfl 10 (by decide) (hts _ kw_235) rfl rfl d_B_grow_76 ?_
          refine lv_if_ne (tgt := 97) hx hb d_B_grow_79 (by decide) (fun hc8 => ?_) (fun hc8 => ?_)
          · skip
            refine lv_aload_n hx hb d_B_grow_97 rfl (lv_at hl 2 rfl) ?_
            refine wz_get (v := .int (nI 1)) (T := T_B) (N := 11) hx hb hts i_B hown hK hP 0 0 rfl rfl rfl 10 (by decide) (hts _ kw_235) rfl rfl d_B_grow_98 ?_
            refine lv_if_ne (tgt := 108) hx hb d_B_grow_101 (by decide) (fun hc9 => ?_) (fun hc9 => ?_)
            · skip
              refine lv_iconst (v := nI 0) hx hb d_B_grow_108 (by decide) ?_
              exact wz_zret hx hb hr hlocks hK hP hD hS d_B_grow_109 (by first | exact Or.inl rfl | exact Or.inr rfl) ⟨G, st, sl, L, S, fa, wy, re, ly, dp, true, rfl, hball, hdl, Or.inl ⟨rfl, rfl, rfl⟩, ⟨[], by simp⟩, hok, hbl⟩
            · skip
              exact absurd hc9 (by decide)
          · skip
            exact absurd hc8 (by decide)
      · skip
        exact absurd hc2 (by decide)
  | false =>
    have outer : ∀ (d : Nat) (t : Nat) (G1 : List Nat) (st1 sl1 : Nat → Int32) (L1 : Nat → Nat → Int32) (S1 : pz_S) (fa1 : Nat → Int32) (wy1 : Nat → Int64) (re1 : Nat → Int32), t ≤ S.1.length → S.1.length + 1 ≤ t + d → (∃ Nw, G1 = G ++ Nw) → gq_ok n a0 b k sg tu G1 st1 sl1 L1 → bl_ok (pz_fact n) G1 S1 fa1 wy1 re1 → pz_mid (bl_s n k fw sg tu od me) r0 ly dp S.1.length t S1 → ∀ (H : Heap) (locs : List Loc) (ls : Array Slot), va_P D vwCl ([bl_W q ab (am 0) (ag 0) fw (pz_fact n) fa1 wy1 re1 S1.1.length ly dp me (bl_b false), gq_W q ag (am 0) (pz_fact n) (2 ^ b) (32 - b) rl st1 sl1 G1.length, wz_rows 12 rl (fun i9 => .inl (q.1, pz_fact n, .inl (L1 i9))), mv_W q am n k rt fo, wz_rows 12 rt (fun i9 => .inl (q.1, 8, .inl (M i9)))] : wz_G).flatten H → va_D A ([bl_W q ab (am 0) (ag 0) fw (pz_fact n) fa1 wy1 re1 S1.1.length ly dp me (bl_b false), gq_W q ag (am 0) (pz_fact n) (2 ^ b) (32 - b) rl st1 sl1 G1.length, wz_rows 12 rl (fun i9 => .inl (q.1, pz_fact n, .inl (L1 i9))), mv_W q am n k rt fo, wz_rows 12 rt (fun i9 => .inl (q.1, 8, .inl (M i9)))] : wz_G).flatten → va_S A s.heap H locs → lv_has ls 4 [(0, .ref (ab 0)), (1, .int (nI S.1.length)), (2, .int (nI t))] → W p l e ({ frames := 4, cells := 0, slots := 0, locals := 97 } : Room) s m ([.ref (ab 0)] : List Value).toArray below meth c H locs 0 0 (MQ below (va_Qi (po_B_grow q ab ag am n b k fw rl rt fo M sg tu od a0 G st sl L S fa wy re ly dp me (bl_b false) r0 false) (wz_At D q A) A) ([.ref (ab 0)] : List Value).toArray s 0 0 A) (F0 m 10 ls []) := by
      intro d
      induction d with
      | zero =>
        intro t G1 st1 sl1 L1 S1 fa1 wy1 re1 ht hd hp1 hok1 hbl1 hmid
        omega
      | succ d ih =>
        intro t G1 st1 sl1 L1 S1 fa1 wy1 re1 ht hd hp1 hok1 hbl1 hmid H locs ls hP hD hS hl
        have hS1l := bl_len hbl1
        have hG1l := gq_len hok1
        have hfS := hmid.2.2.2.2.1
        refine lv_iload_n hx hb d_B_grow_10 rfl (lv_at hl 2 rfl) ?_
        refine lv_iload_n hx hb d_B_grow_11 rfl (lv_at hl 1 rfl) ?_
        refine wz_ge (tgt := 58) hx hb d_B_grow_12 (by decide) (by omega) (by omega) (fun hc => ?_) (fun hc => ?_)
        · skip
          have hte : t = S.1.length := by omega
          subst hte
          refine lv_aload_n hx hb d_B_grow_58 rfl (lv_at hl 0 rfl) ?_
          refine lv_aload_n hx hb d_B_grow_59 rfl (lv_at hl 0 rfl) ?_
          refine wz_get (v := .int (nI S1.1.length)) (T := T_B) (N := 11) hx hb hts i_B hown hK hP 0 0 rfl rfl rfl 6 (by decide) (hts _ kw_226) rfl rfl d_B_grow_60 ?_
          refine lv_iload_n hx hb d_B_grow_63 rfl (lv_at hl 1 rfl) ?_
          refine wz_ne (tgt := 71) hx hb d_B_grow_64 (by decide) (by omega) (by omega) (fun hc7 => ?_) (fun hc7 => ?_)
          · skip
            have hball' := pz_mid_end hmid (by omega)
            refine lv_iconst (v := nI 0) hx hb d_B_grow_71 (by decide) ?_
            refine wz_put (gs' := [bl_W q ab (am 0) (ag 0) fw (pz_fact n) fa1 wy1 re1 S1.1.length ly dp me (nI 0), gq_W q ag (am 0) (pz_fact n) (2 ^ b) (32 - b) rl st1 sl1 G1.length, wz_rows 12 rl (fun i9 => .inl (q.1, pz_fact n, .inl (L1 i9))), mv_W q am n k rt fo, wz_rows 12 rt (fun i9 => .inl (q.1, 8, .inl (M i9)))]) (v := .int (nI 0)) (T := T_B) (N := 11) hx hb hts i_B t_B t_B_ok n_B hown hK hP hD hS 0 0 rfl rfl rfl 10 (by decide) (hts _ kw_235) rfl rfl (ty := t_B 10) (by decide +kernel) rfl rfl (Nat.le_of_ble_eq_true rfl) d_B_grow_72 rfl (fun H locs hP hD hS => ?_)
            refine lv_aload_n hx hb d_B_grow_75 rfl (lv_at hl 0 rfl) ?_
            refine wz_get (v := .int (nI 0)) (T := T_B) (N := 11) hx hb hts i_B hown hK hP 0 0 rfl rfl rfl 10 (by decide) (hts _ kw_235) rfl rfl d_B_grow_76 ?_
            refine lv_if_ne (tgt := 97) hx hb d_B_grow_79 (by decide) (fun hc8 => ?_) (fun hc8 => ?_)
            · skip
              exact absurd rfl hc8
            · skip
              refine lv_aload_n hx hb d_B_grow_82 rfl (lv_at hl 0 rfl) ?_
              refine lv_iload_n hx hb d_B_grow_83 rfl (lv_at hl 1 rfl) ?_
              refine wz_put (gs' := [bl_W q ab (am 0) (ag 0) fw (pz_fact n) fa1 wy1 re1 S1.1.length S.1.length dp me (nI 0), gq_W q ag (am 0) (pz_fact n) (2 ^ b) (32 - b) rl st1 sl1 G1.length, wz_rows 12 rl (fun i9 => .inl (q.1, pz_fact n, .inl (L1 i9))), mv_W q am n k rt fo, wz_rows 12 rt (fun i9 => .inl (q.1, 8, .inl (M i9)))]) (v := .int (nI S.1.length)) (T := T_B) (N := 11) hx hb hts i_B t_B t_B_ok n_B hown hK hP hD hS 0 0 rfl rfl rfl 7 (by decide) (hts _ kw_228) rfl rfl (ty := t_B 7) (by decide +kernel) rfl rfl (Nat.le_of_ble_eq_true rfl) d_B_grow_84 rfl (fun H locs hP hD hS => ?_)
              refine lv_aload_n hx hb d_B_grow_87 rfl (lv_at hl 0 rfl) ?_
              refine lv_dup hx hb d_B_grow_88 rfl ?_
              refine wz_get (v := .int (nI dp)) (T := T_B) (N := 11) hx hb hts i_B hown hK hP 0 0 rfl rfl rfl 8 (by decide) (hts _ kw_230) rfl rfl d_B_grow_89 ?_
              refine lv_iconst (v := nI 1) hx hb d_B_grow_92 (by decide) ?_
              refine lv_iadd hx hb d_B_grow_93 ?_
              refine wz_topi (y := nI (dp + 1)) (nI_add dp 1) ?_
              refine wz_put (gs' := [bl_W q ab (am 0) (ag 0) fw (pz_fact n) fa1 wy1 re1 S1.1.length S.1.length (dp + 1) me (nI 0), gq_W q ag (am 0) (pz_fact n) (2 ^ b) (32 - b) rl st1 sl1 G1.length, wz_rows 12 rl (fun i9 => .inl (q.1, pz_fact n, .inl (L1 i9))), mv_W q am n k rt fo, wz_rows 12 rt (fun i9 => .inl (q.1, 8, .inl (M i9)))]) (v := .int (nI (dp + 1))) (T := T_B) (N := 11) hx hb hts i_B t_B t_B_ok n_B hown hK hP hD hS 0 0 rfl rfl rfl 8 (by decide) (hts _ kw_230) rfl rfl (ty := t_B 8) (by decide +kernel) rfl rfl (Nat.le_of_ble_eq_true rfl) d_B_grow_94 rfl (fun H locs hP hD hS => ?_)
              refine lv_aload_n hx hb d_B_grow_97 rfl (lv_at hl 0 rfl) ?_
              refine wz_get (v := .int (nI 0)) (T := T_B) (N := 11) hx hb hts i_B hown hK hP 0 0 rfl rfl rfl 10 (by decide) (hts _ kw_235) rfl rfl d_B_grow_98 ?_
              refine lv_if_ne (tgt := 108) hx hb d_B_grow_101 (by decide) (fun hc9 => ?_) (fun hc9 => ?_)
              · skip
                exact absurd rfl hc9
              · skip
                refine lv_iconst (v := nI 1) hx hb d_B_grow_104 (by decide) ?_
                refine lv_goto (tgt := 109) hx hb d_B_grow_105 (by decide) ?_
                exact wz_zret hx hb hr hlocks hK hP hD hS d_B_grow_109 (by first | exact Or.inl rfl | exact Or.inr rfl) ⟨G1, st1, sl1, L1, S1, fa1, wy1, re1, S.1.length, dp + 1, false, rfl, hball', by omega, Or.inr ⟨rfl, rfl, rfl, rfl⟩, hp1, hok1, hbl1⟩
          · skip
            have hball' := pz_mid_full hmid hc7
            refine lv_iconst (v := nI 1) hx hb d_B_grow_67 (by decide) ?_
            refine lv_goto (tgt := 72) hx hb d_B_grow_68 (by decide) ?_
            refine wz_put (gs' := [bl_W q ab (am 0) (ag 0) fw (pz_fact n) fa1 wy1 re1 S1.1.length ly dp me (nI 1), gq_W q ag (am 0) (pz_fact n) (2 ^ b) (32 - b) rl st1 sl1 G1.length, wz_rows 12 rl (fun i9 => .inl (q.1, pz_fact n, .inl (L1 i9))), mv_W q am n k rt fo, wz_rows 12 rt (fun i9 => .inl (q.1, 8, .inl (M i9)))]) (v := .int (nI 1)) (T := T_B) (N := 11) hx hb hts i_B t_B t_B_ok n_B hown hK hP hD hS 0 0 rfl rfl rfl 10 (by decide) (hts _ kw_235) rfl rfl (ty := t_B 10) (by decide +kernel) rfl rfl (Nat.le_of_ble_eq_true rfl) d_B_grow_72 rfl (fun H locs hP hD hS => ?_)
            refine lv_aload_n hx hb d_B_grow_75 rfl (lv_at hl 0 rfl) ?_
            refine wz_get (v := .int (nI 1)) (T := T_B) (N := 11) hx hb hts i_B hown hK hP 0 0 rfl rfl rfl 10 (by decide) (hts _ kw_235) rfl rfl d_B_grow_76 ?_
            refine lv_if_ne (tgt := 97) hx hb d_B_grow_79 (by decide) (fun hc8 => ?_) (fun hc8 => ?_)
            · skip
              refine lv_aload_n hx hb d_B_grow_97 rfl (lv_at hl 0 rfl) ?_
              refine wz_get (v := .int (nI 1)) (T := T_B) (N := 11) hx hb hts i_B hown hK hP 0 0 rfl rfl rfl 10 (by decide) (hts _ kw_235) rfl rfl d_B_grow_98 ?_
              refine lv_if_ne (tgt := 108) hx hb d_B_grow_101 (by decide) (fun hc9 => ?_) (fun hc9 => ?_)
              · skip
                refine lv_iconst (v := nI 0) hx hb d_B_grow_108 (by decide) ?_
                exact wz_zret hx hb hr hlocks hK hP hD hS d_B_grow_109 (by first | exact Or.inl rfl | exact Or.inr rfl) ⟨G1, st1, sl1, L1, S1, fa1, wy1, re1, ly, dp, true, rfl, hball', hdl, Or.inl ⟨rfl, rfl, rfl⟩, hp1, hok1, hbl1⟩
              · skip
                exact absurd hc9 (by decide)
            · skip
              exact absurd hc8 (by decide)
        · skip
          refine lv_aload_n hx hb d_B_grow_15 rfl (lv_at hl 0 rfl) ?_
          refine wz_get (v := .int (bl_b false)) (T := T_B) (N := 11) hx hb hts i_B hown hK hP 0 0 rfl rfl rfl 10 (by decide) (hts _ kw_235) rfl rfl d_B_grow_16 ?_
          refine lv_if_ne (tgt := 58) hx hb d_B_grow_19 (by decide) (fun hc2 => ?_) (fun hc2 => ?_)
          · skip
            exact absurd rfl hc2
          · skip
            obtain ⟨x, hgx⟩ : ∃ x, S1.1[t]? = some x := ⟨_, List.getElem?_eq_getElem (by omega)⟩
            have hxd := pz_mid_far hmid hc hgx
            refine lv_iconst (v := nI 0) hx hb d_B_grow_22 (by decide) ?_
            refine lv_istore_n (lv' := [(3, .int (nI 0)), (0, .ref (ab 0)), (1, .int (nI S.1.length)), (2, .int (nI t))]) hx hb d_B_grow_23 rfl hl (by decide) rfl (fun ls hl => ?_)
            have inner : ∀ (d2 : Nat) (o : Nat) (G2 : List Nat) (st2 sl2 : Nat → Int32) (L2 : Nat → Nat → Int32) (S2 : pz_S) (fa2 : Nat → Int32) (wy2 : Nat → Int64) (re2 : Nat → Int32), o ≤ k → k + 1 ≤ o + d2 → (∃ Nw, G2 = G ++ Nw) → gq_ok n a0 b k sg tu G2 st2 sl2 L2 → bl_ok (pz_fact n) G2 S2 fa2 wy2 re2 → S2 = (pz_st (bl_g n fw sg tu) (bl_mt me od) o x).foldl (pz_vis (dp + 1) (S1.2.2 x)) S1 → ∀ (H : Heap) (locs : List Loc) (ls : Array Slot), va_P D vwCl ([bl_W q ab (am 0) (ag 0) fw (pz_fact n) fa2 wy2 re2 S2.1.length ly dp me (bl_b false), gq_W q ag (am 0) (pz_fact n) (2 ^ b) (32 - b) rl st2 sl2 G2.length, wz_rows 12 rl (fun i9 => .inl (q.1, pz_fact n, .inl (L2 i9))), mv_W q am n k rt fo, wz_rows 12 rt (fun i9 => .inl (q.1, 8, .inl (M i9)))] : wz_G).flatten H → va_D A ([bl_W q ab (am 0) (ag 0) fw (pz_fact n) fa2 wy2 re2 S2.1.length ly dp me (bl_b false), gq_W q ag (am 0) (pz_fact n) (2 ^ b) (32 - b) rl st2 sl2 G2.length, wz_rows 12 rl (fun i9 => .inl (q.1, pz_fact n, .inl (L2 i9))), mv_W q am n k rt fo, wz_rows 12 rt (fun i9 => .inl (q.1, 8, .inl (M i9)))] : wz_G).flatten → va_S A s.heap H locs → lv_has ls 4 [(0, .ref (ab 0)), (1, .int (nI S.1.length)), (2, .int (nI t)), (3, .int (nI o))] → W p l e ({ frames := 4, cells := 0, slots := 0, locals := 97 } : Room) s m ([.ref (ab 0)] : List Value).toArray below meth c H locs 0 0 (MQ below (va_Qi (po_B_grow q ab ag am n b k fw rl rt fo M sg tu od a0 G st sl L S fa wy re ly dp me (bl_b false) r0 false) (wz_At D q A) A) ([.ref (ab 0)] : List Value).toArray s 0 0 A) (F0 m 24 ls []) := by
              intro d2
              induction d2 with
              | zero =>
                intro o G2 st2 sl2 L2 S2 fa2 wy2 re2 ho hd2 hp2 hok2 hbl2 hS2
                omega
              | succ d2 ih2 =>
                intro o G2 st2 sl2 L2 S2 fa2 wy2 re2 ho hd2 hp2 hok2 hbl2 hS2 H locs ls hP hD hS hl
                have hS2l := bl_len hbl2
                have hG2l := gq_len hok2
                refine lv_iload_n hx hb d_B_grow_24 rfl (lv_at hl 3 rfl) ?_
                refine lv_aload_n hx hb d_B_grow_25 rfl (lv_at hl 0 rfl) ?_
                refine wz_get (v := .ref (am 0)) (T := T_B) (N := 11) hx hb hts i_B hown hK hP 0 0 rfl rfl rfl 0 (by decide) (hts _ kw_217) rfl rfl d_B_grow_26 ?_
                refine wz_getN (v := .int (nI k)) (T := T_M) (N := 4) hx hb hts i_M hown hK hP 3 0 rfl rfl rfl 3 (by decide) (hN _ (List.mem_of_getElem? (i := 1) rfl)) rfl rfl d_B_grow_29 ?_
                refine wz_ge (tgt := 52) hx hb d_B_grow_32 (by decide) (by omega) (by omega) (fun hc3 => ?_) (fun hc3 => ?_)
                · skip
                  have hoe : o = k := by omega
                  subst hoe
                  have hm2 := pz_mid_step hmid hc hgx
                  rw [show (bl_s n o fw sg tu od me x).foldl (pz_vis (dp + 1) (S1.2.2 x)) S1 = S2 from hS2.symm] at hm2
                  refine lv_iinc (v := nI (t + 1)) (lv' := [(2, .int (nI (t + 1))), (0, .ref (ab 0)), (1, .int (nI S.1.length)), (3, .int (nI o))]) hx hb d_B_grow_52 hl (k := 2) rfl (nI_1 t) (by decide) rfl (fun ls hl => ?_)
                  refine lv_goto (tgt := 10) hx hb d_B_grow_55 (by decide) ?_
                  exact ih (t + 1) G2 st2 sl2 L2 S2 fa2 wy2 re2 (by omega) (by omega) hp2 hok2 hbl2 hm2 _ _ _ hP hD hS (lv_sub hl [1, 2, 0] rfl)
                · skip
                  obtain ⟨Nx, hNx, -⟩ := pz_fold_1 (d := dp + 1) (w := S1.2.2 x) (pz_st (bl_g n fw sg tu) (bl_mt me od) o x) S1
                  rw [← hS2] at hNx
                  have hgx2 : S2.1[t]? = some x := by rw [hNx, List.getElem?_append_left (List.getElem?_eq_some_iff.mp hgx).1]; exact hgx
                  have htl2 := (List.getElem?_eq_some_iff.mp hgx2).1
                  obtain ⟨ix, eix, hix⟩ := hbl2.2.2.2 t x hgx2
                  have hk2 := pz_fold_keep (l := pz_st (bl_g n fw sg tu) (bl_mt me od) o x) (w := S1.2.2 x) hxd (show dp ≠ dp + 1 by omega)
                  rw [← hS2] at hk2
                  have hlt2 : ∀ y e, S2.2.1 y = some e → e < 2 ^ 21 := by
                    rw [hS2]
                    refine pz_fold_lt (fun z e hz => ?_) (by omega)
                    have := hmid.1.2.2.2.2.2.1 x dp hgx hxd z e hz
                    omega
                  refine lv_aload_n hx hb d_B_grow_35 rfl (lv_at hl 0 rfl) ?_
                  refine lv_aload_n hx hb d_B_grow_36 rfl (lv_at hl 0 rfl) ?_
                  refine wz_get (v := .ref (ab 3)) (T := T_B) (N := 11) hx hb hts i_B hown hK hP 0 0 rfl rfl rfl 5 (by decide) (hts _ kw_224) rfl rfl d_B_grow_37 ?_
                  refine lv_iload_n hx hb d_B_grow_40 rfl (lv_at hl 2 rfl) ?_
                  refine wz_iald hx hb hK hP 0 3 (j := t) rfl rfl (by omega) (by omega) d_B_grow_41 ?_
                  refine wz_topi (y := nI ix) eix ?_
                  refine lv_iload_n hx hb d_B_grow_42 rfl (lv_at hl 3 rfl) ?_
                  have hQ := wz_split (n := 5) (gc := [bl_W q ab (am 0) (ag 0) fw (pz_fact n) fa2 wy2 re2 S2.1.length ly dp me (bl_b false), gq_W q ag (am 0) (pz_fact n) (2 ^ b) (32 - b) rl st2 sl2 G2.length, wz_rows 12 rl (fun i9 => .inl (q.1, pz_fact n, .inl (L2 i9))), mv_W q am n k rt fo, wz_rows 12 rt (fun i9 => .inl (q.1, 8, .inl (M i9)))]) (gr := []) [0, 1, 2, 3, 4] [] rfl (by decide) rfl rfl hP hD
                  refine wz_callv (va_runV (As := [.int (nI ix), .int (nI o)]) (rest := []) ⟨hx, hb, hml, hown, hts⟩ (c_B_reachFrom l D q ab ag am n b k fw rl rt fo M sg tu od a0 G2 st2 sl2 L2 S2 fa2 wy2 re2 ly dp me (bl_b false) ix x o hn hb0 hb30 hM hk hfw hmv hok2 hbl2 hc3 hix hk2.1 (by omega) hlt2 _) (cwV 2 hts (wz_goodV kw_355 kw_357 kw_8 kw_36 kw_358) rfl rfl rfl (by decide +kernel) ⟨Nat.le_of_ble_eq_true rfl, Nat.le_of_ble_eq_true rfl⟩) (wz_preV (gi := 0) (k := 0) hN hK hQ wz_L_ok rfl rfl rfl) rfl rfl hl.1 rfl (lv_room (Nat.le_of_ble_eq_true rfl)) d_B_grow_43 ⟨Nat.le_of_ble_eq_true rfl, Nat.le_of_ble_eq_true rfl⟩) hQ hS hA (fun gx H locs hp hP hD hS => ?_)
                  obtain ⟨G3, st3, sl3, L3, S3, fa3, wy3, re3, rfl, hS3, ⟨Nb, hNb⟩, hok3, hbl3⟩ := hp
                  obtain ⟨Na, hNa⟩ := hp2
                  obtain ⟨hP, hD⟩ := wz_ord (n := 5) (gs' := [bl_W q ab (am 0) (ag 0) fw (pz_fact n) fa3 wy3 re3 S3.1.length ly dp me (bl_b false), gq_W q ag (am 0) (pz_fact n) (2 ^ b) (32 - b) rl st3 sl3 G3.length, wz_rows 12 rl (fun i9 => .inl (q.1, pz_fact n, .inl (L3 i9))), mv_W q am n k rt fo, wz_rows 12 rt (fun i9 => .inl (q.1, 8, .inl (M i9)))]) [0, 1, 2, 3, 4] rfl (by decide) rfl hP hD
                  refine lv_iinc (v := nI (o + 1)) (lv' := [(3, .int (nI (o + 1))), (0, .ref (ab 0)), (1, .int (nI S.1.length)), (2, .int (nI t))]) hx hb d_B_grow_46 hl (k := 3) rfl (nI_1 o) (by decide) rfl (fun ls hl => ?_)
                  refine lv_goto (tgt := 24) hx hb d_B_grow_49 (by decide) ?_
                  exact ih2 (o + 1) G3 st3 sl3 L3 S3 fa3 wy3 re3 (by omega) (by omega) ⟨Na ++ Nb, by rw [hNb, hNa, List.append_assoc]⟩ hok3 hbl3 (by rw [pz_st_fold, ← hS2, hS3, hk2.2]) _ _ _ hP hD hS (lv_sub hl [1, 2, 3, 0] rfl)
            exact inner (k + 1) 0 G1 st1 sl1 L1 S1 fa1 wy1 re1 (by omega) (by omega) hp1 hok1 hbl1 rfl _ _ _ hP hD hS (lv_sub hl [1, 2, 3, 0] rfl)
    exact outer (S.1.length + 1) ly G st sl L S fa wy re (by omega) (by omega) ⟨[], by simp⟩ hok hbl (pz_mid_0 hball) _ _ _ hP hD hS (lv_sub hl [2, 1, 0] rfl)
end
section
theorem d_B_growTo_0 : decode b_B_growTo 0 = .ok (.iconst 0, 1) := by decide +kernel
theorem d_B_growTo_1 : decode b_B_growTo 1 = .ok (.istore_n 2, 1) := by decide +kernel
theorem d_B_growTo_2 : decode b_B_growTo 2 = .ok (.iload_n 2, 1) := by decide +kernel
theorem d_B_growTo_3 : decode b_B_growTo 3 = .ok (.aload_n 0, 1) := by decide +kernel
theorem d_B_growTo_4 : decode b_B_growTo 4 = .ok (.getfield 26, 3) := by decide +kernel
theorem d_B_growTo_7 : decode b_B_growTo 7 = .ok (.arraylength, 1) := by decide +kernel
theorem d_B_growTo_8 : decode b_B_growTo 8 = .ok (.if_icmp .ge 29, 3) := by decide +kernel
theorem d_B_growTo_11 : decode b_B_growTo 11 = .ok (.aload_n 0, 1) := by decide +kernel
theorem d_B_growTo_12 : decode b_B_growTo 12 = .ok (.getfield 52, 3) := by decide +kernel
theorem d_B_growTo_15 : decode b_B_growTo 15 = .ok (.iload_n 1, 1) := by decide +kernel
theorem d_B_growTo_16 : decode b_B_growTo 16 = .ok (.if_icmp .ge 21, 3) := by decide +kernel
theorem d_B_growTo_19 : decode b_B_growTo 19 = .ok (.aload_n 0, 1) := by decide +kernel
theorem d_B_growTo_20 : decode b_B_growTo 20 = .ok (.getfield 55, 3) := by decide +kernel
theorem d_B_growTo_23 : decode b_B_growTo 23 = .ok (.ifCond .ne 14, 3) := by decide +kernel
theorem d_B_growTo_26 : decode b_B_growTo 26 = .ok (.aload_n 0, 1) := by decide +kernel
theorem d_B_growTo_27 : decode b_B_growTo 27 = .ok (.invokevirtual 71, 3) := by decide +kernel
theorem d_B_growTo_30 : decode b_B_growTo 30 = .ok (.pop, 1) := by decide +kernel
theorem d_B_growTo_31 : decode b_B_growTo 31 = .ok (.iinc 2 1, 3) := by decide +kernel
theorem d_B_growTo_34 : decode b_B_growTo 34 = .ok (.goto (-32), 3) := by decide +kernel
theorem d_B_growTo_37 : decode b_B_growTo 37 = .ok (.return_, 1) := by decide +kernel
theorem d_B_growWhole_0 : decode b_B_growWhole 0 = .ok (.aload_n 0, 1) := by decide +kernel
theorem d_B_growWhole_1 : decode b_B_growWhole 1 = .ok (.aload_n 0, 1) := by decide +kernel
theorem d_B_growWhole_2 : decode b_B_growWhole 2 = .ok (.getfield 26, 3) := by decide +kernel
theorem d_B_growWhole_5 : decode b_B_growWhole 5 = .ok (.arraylength, 1) := by decide +kernel
theorem d_B_growWhole_6 : decode b_B_growWhole 6 = .ok (.invokevirtual 75, 3) := by decide +kernel
theorem d_B_growWhole_9 : decode b_B_growWhole 9 = .ok (.return_, 1) := by decide +kernel
theorem d_B_sizeOfLayer_0 : decode b_B_sizeOfLayer 0 = .ok (.iload_n 1, 1) := by decide +kernel
theorem d_B_sizeOfLayer_1 : decode b_B_sizeOfLayer 1 = .ok (.aload_n 0, 1) := by decide +kernel
theorem d_B_sizeOfLayer_2 : decode b_B_sizeOfLayer 2 = .ok (.getfield 52, 3) := by decide +kernel
theorem d_B_sizeOfLayer_5 : decode b_B_sizeOfLayer 5 = .ok (.if_icmp .le 7, 3) := by decide +kernel
theorem d_B_sizeOfLayer_8 : decode b_B_sizeOfLayer 8 = .ok (.iconst 0, 1) := by decide +kernel
theorem d_B_sizeOfLayer_9 : decode b_B_sizeOfLayer 9 = .ok (.goto 16, 3) := by decide +kernel
theorem d_B_sizeOfLayer_12 : decode b_B_sizeOfLayer 12 = .ok (.aload_n 0, 1) := by decide +kernel
theorem d_B_sizeOfLayer_13 : decode b_B_sizeOfLayer 13 = .ok (.iload_n 1, 1) := by decide +kernel
theorem d_B_sizeOfLayer_14 : decode b_B_sizeOfLayer 14 = .ok (.invokevirtual 79, 3) := by decide +kernel
theorem d_B_sizeOfLayer_17 : decode b_B_sizeOfLayer 17 = .ok (.aload_n 0, 1) := by decide +kernel
theorem d_B_sizeOfLayer_18 : decode b_B_sizeOfLayer 18 = .ok (.iload_n 1, 1) := by decide +kernel
theorem d_B_sizeOfLayer_19 : decode b_B_sizeOfLayer 19 = .ok (.iconst 1, 1) := by decide +kernel
theorem d_B_sizeOfLayer_20 : decode b_B_sizeOfLayer 20 = .ok (.isub, 1) := by decide +kernel
theorem d_B_sizeOfLayer_21 : decode b_B_sizeOfLayer 21 = .ok (.invokevirtual 79, 3) := by decide +kernel
theorem d_B_sizeOfLayer_24 : decode b_B_sizeOfLayer 24 = .ok (.isub, 1) := by decide +kernel
theorem d_B_sizeOfLayer_25 : decode b_B_sizeOfLayer 25 = .ok (.ireturn, 1) := by decide +kernel
theorem kw_15 : (Cond.selects "TwoEndSearch$Ball" ⟨"TwoEndSearch$Ball", "countWithin", "(I)I"⟩ ⟨"TwoEndSearch$Ball", "countWithin", "(I)I"⟩ : Cond) ∈ bigW := bigW_of 15 (by decide +kernel) (by decide +kernel)
theorem kw_352 : (Cond.instanceMethod ⟨"TwoEndSearch$Ball", "grow", "()Z"⟩ : Cond) ∈ bigW := bigW_of 352 (by decide +kernel) (by decide +kernel)
theorem kw_353 : (Cond.selects "TwoEndSearch$Ball" ⟨"TwoEndSearch$Ball", "grow", "()Z"⟩ ⟨"TwoEndSearch$Ball", "grow", "()Z"⟩ : Cond) ∈ bigW := bigW_of 353 (by decide +kernel) (by decide +kernel)
theorem kw_354 : (Cond.code ⟨"TwoEndSearch$Ball", "grow", "()Z"⟩ prog_2_method_4_code 4 (some .boolean) : Cond) ∈ bigW := bigW_of 354 (by decide +kernel) (by decide +kernel)
theorem kw_410 : (Cond.instanceMethod ⟨"TwoEndSearch$Ball", "growTo", "(I)V"⟩ : Cond) ∈ bigW := bigW_of 410 (by decide +kernel) (by decide +kernel)
theorem kw_411 : (Cond.selects "TwoEndSearch$Ball" ⟨"TwoEndSearch$Ball", "growTo", "(I)V"⟩ ⟨"TwoEndSearch$Ball", "growTo", "(I)V"⟩ : Cond) ∈ bigW := bigW_of 411 (by decide +kernel) (by decide +kernel)
theorem kw_412 : (Cond.code ⟨"TwoEndSearch$Ball", "growTo", "(I)V"⟩ prog_2_method_5_code 3 none : Cond) ∈ bigW := bigW_of 412 (by decide +kernel) (by decide +kernel)
theorem kw_413 : (Cond.methodLink "TwoEndSearch$Ball" 71 ⟨"TwoEndSearch$Ball", "grow", "()Z"⟩ : Cond) ∈ bigW := bigW_of 413 (by decide +kernel) (by decide +kernel)
theorem kw_418 : (Cond.methodLink "TwoEndSearch$Ball" 79 ⟨"TwoEndSearch$Ball", "countWithin", "(I)I"⟩ : Cond) ∈ bigW := bigW_of 418 (by decide +kernel) (by decide +kernel)
theorem kw_420 : (Cond.instanceMethod ⟨"TwoEndSearch$Ball", "countWithin", "(I)I"⟩ : Cond) ∈ bigW := bigW_of 420 (by decide +kernel) (by decide +kernel)
theorem kw_421 : (Cond.code ⟨"TwoEndSearch$Ball", "countWithin", "(I)I"⟩ prog_2_method_11_code 5 (some .int) : Cond) ∈ bigW := bigW_of 421 (by decide +kernel) (by decide +kernel)
theorem kw_431 : (Cond.methodLink "TwoEndSearch$Ball" 75 ⟨"TwoEndSearch$Ball", "growTo", "(I)V"⟩ : Cond) ∈ bigW := bigW_of 431 (by decide +kernel) (by decide +kernel)
def po_B_growTo (q : wz_Q) (ab ag am : Nat → Nat) (n b k fw : Nat) (rl rt : Nat → Nat) (fo : Nat → Int32) (M : Nat → Nat → Int32) (sg tu : Nat → Nat → Nat) (od : Nat → Nat) (a0 : Nat) (G : List Nat) (st sl : Nat → Int32) (L : Nat → Nat → Int32) (S : pz_S) (fa : Nat → Int32) (wy : Nat → Int64) (re : Nat → Int32) (ly dp : Nat) (me cm : Int32) (r0 : Nat) (cb : Bool) (D9 : Nat) : wz_G → Prop := fun w => ∃ (G' : List Nat) (st' sl' : Nat → Int32) (L' : Nat → Nat → Int32) (S' : pz_S) (fa' : Nat → Int32) (wy' : Nat → Int64) (re' : Nat → Int32) (ly' dp' : Nat) (cb' : Bool), w = [bl_W q ab (am 0) (ag 0) fw (pz_fact n) fa' wy' re' S'.1.length ly' dp' me (bl_b cb'), gq_W q ag (am 0) (pz_fact n) (2 ^ b) (32 - b) rl st' sl' G'.length, wz_rows 12 rl (fun i9 => .inl (q.1, pz_fact n, .inl (L' i9))), mv_W q am n k rt fo, wz_rows 12 rt (fun i9 => .inl (q.1, 8, .inl (M i9)))] ∧ pz_ball (bl_s n k fw sg tu od me) r0 ly' dp' cb' S' ∧ dp' ≤ ly' ∧ (cb' = true ∨ D9 ≤ dp') ∧ (∃ Nw, G' = G ++ Nw) ∧ gq_ok n a0 b k sg tu G' st' sl' L' ∧ bl_ok (pz_fact n) G' S' fa' wy' re'
set_option maxHeartbeats 4000000 in
set_option maxRecDepth 100000 in
/-- layers up to a distance -/
theorem c_B_growTo (l : Launch) (D : va_G) (q : wz_Q) (ab ag am : Nat → Nat) (n b k fw : Nat) (rl rt : Nat → Nat) (fo : Nat → Int32) (M : Nat → Nat → Int32) (sg tu : Nat → Nat → Nat) (od : Nat → Nat) (a0 : Nat) (G : List Nat) (st sl : Nat → Int32) (L : Nat → Nat → Int32) (S : pz_S) (fa : Nat → Int32) (wy : Nat → Int64) (re : Nat → Int32) (ly dp : Nat) (me cm : Int32) (r0 : Nat) (cb : Bool) (D9 : Nat) (hn : n ≤ 8) (hb0 : 0 < b) (hb30 : b ≤ 30) (hM : pz_fact n < 2 ^ b) (hk : k ≤ 6) (hfw : fw = 0 ∨ fw = 6) (hmv : mv_ok n k fo M sg tu od) (hok : gq_ok n a0 b k sg tu G st sl L) (hbl : bl_ok (pz_fact n) G S fa wy re) (hball : pz_ball (bl_s n k fw sg tu od me) r0 ly dp cb S) (hcm : cm = bl_b cb) (hdl : dp ≤ ly) (hD9 : D9 < 2 ^ 31) : wz_Mv l y_B_growTo ws_B_growTo ({ frames := 5, cells := 0, slots := 0, locals := 120 } : Room) D q ([.ref (ab 0), .int (nI D9)] : List Value) [bl_W q ab (am 0) (ag 0) fw (pz_fact n) fa wy re S.1.length ly dp me cm, gq_W q ag (am 0) (pz_fact n) (2 ^ b) (32 - b) rl st sl G.length, wz_rows 12 rl (fun i9 => .inl (q.1, pz_fact n, .inl (L i9))), mv_W q am n k rt fo, wz_rows 12 rt (fun i9 => .inl (q.1, 8, .inl (M i9)))] (po_B_growTo q ab ag am n b k fw rl rt fo M sg tu od a0 G st sl L S fa wy re ly dp me cm r0 cb D9) 0 0 := by
  intro sz9
  refine wz_enter (cc := b_B_growTo) (maxL := 3) (ret := none) (Qc := fun A => (va_Qv (po_B_growTo q ab ag am n b k fw rl rt fo M sg tu od a0 G st sl L S fa wy re ly dp me cm r0 cb D9) (wz_At D q A) A)) (by decide) (Nat.le_of_ble_eq_true rfl) ?_
  intro p e s m below meth c A ls C hP hD hS hl
  obtain ⟨hx, hb, hr, hml, hlocks, hown, hts, hN, hK, hA, hnm⟩ := C
  have hown : s.vm.findClass "TwoEndSearch$Ball" = some m.cls := hown
  have hl : lv_has ls 3 [(0, .ref (ab 0)), (1, .int (nI D9))] := hl
  have hfl := pz_fact_le hn
  subst hcm
  refine lv_iconst (v := nI 0) hx hb d_B_growTo_0 (by decide) ?_
  refine lv_istore_n (lv' := [(2, .int (nI 0)), (0, .ref (ab 0)), (1, .int (nI D9))]) hx hb d_B_growTo_1 rfl hl (by decide) rfl (fun ls hl => ?_)
  have loop : ∀ (d : Nat) (t : Nat) (G1 : List Nat) (st1 sl1 : Nat → Int32) (L1 : Nat → Nat → Int32) (S1 : pz_S) (fa1 : Nat → Int32) (wy1 : Nat → Int64) (re1 : Nat → Int32) (ly1 dp1 : Nat) (cb1 : Bool), t ≤ pz_fact n → pz_fact n + 1 ≤ t + d → (∃ Nw, G1 = G ++ Nw) → gq_ok n a0 b k sg tu G1 st1 sl1 L1 → bl_ok (pz_fact n) G1 S1 fa1 wy1 re1 → pz_ball (bl_s n k fw sg tu od me) r0 ly1 dp1 cb1 S1 → dp1 ≤ ly1 → (cb1 = false → t ≤ dp1) → ∀ (H : Heap) (locs : List Loc) (ls : Array Slot), va_P D vwCl ([bl_W q ab (am 0) (ag 0) fw (pz_fact n) fa1 wy1 re1 S1.1.length ly1 dp1 me (bl_b cb1), gq_W q ag (am 0) (pz_fact n) (2 ^ b) (32 - b) rl st1 sl1 G1.length, wz_rows 12 rl (fun i9 => .inl (q.1, pz_fact n, .inl (L1 i9))), mv_W q am n k rt fo, wz_rows 12 rt (fun i9 => .inl (q.1, 8, .inl (M i9)))] : wz_G).flatten H → va_D A ([bl_W q ab (am 0) (ag 0) fw (pz_fact n) fa1 wy1 re1 S1.1.length ly1 dp1 me (bl_b cb1), gq_W q ag (am 0) (pz_fact n) (2 ^ b) (32 - b) rl st1 sl1 G1.length, wz_rows 12 rl (fun i9 => .inl (q.1, pz_fact n, .inl (L1 i9))), mv_W q am n k rt fo, wz_rows 12 rt (fun i9 => .inl (q.1, 8, .inl (M i9)))] : wz_G).flatten → va_S A s.heap H locs → lv_has ls 3 [(0, .ref (ab 0)), (1, .int (nI D9)), (2, .int (nI t))] → W p l e ({ frames := 5, cells := 0, slots := 0, locals := 120 } : Room) s m ([.ref (ab 0), .int (nI D9)] : List Value).toArray below meth c H locs 0 0 (MQ below (va_Qv (po_B_growTo q ab ag am n b k fw rl rt fo M sg tu od a0 G st sl L S fa wy re ly dp me (bl_b cb) r0 cb D9) (wz_At D q A) A) ([.ref (ab 0), .int (nI D9)] : List Value).toArray s 0 0 A) (F0 m 2 ls []) := by
    intro d
    induction d with
    | zero =>
      intro t G1 st1 sl1 L1 S1 fa1 wy1 re1 ly1 dp1 cb1 ht hd hp1 hok1 hbl1 hball1 hdl1 h9
      omega
    | succ d ih =>
      intro t G1 st1 sl1 L1 S1 fa1 wy1 re1 ly1 dp1 cb1 ht hd hp1 hok1 hbl1 hball1 hdl1 h9 H locs ls hP hD hS hl
      have hS1l := bl_len hbl1
      have hG1l := gq_len hok1
      have hly1 := hball1.2.1
      refine lv_iload_n hx hb d_B_growTo_2 rfl (lv_at hl 2 rfl) ?_
      refine lv_aload_n hx hb d_B_growTo_3 rfl (lv_at hl 0 rfl) ?_
      refine wz_get (v := .ref (ab 1)) (T := T_B) (N := 11) hx hb hts i_B hown hK hP 0 0 rfl rfl rfl 3 (by decide) (hts _ kw_220) rfl rfl d_B_growTo_4 ?_
      refine wz_alen hx hb hK hP 0 1 (n := pz_fact n) rfl rfl d_B_growTo_7 ?_
      refine wz_ge (tgt := 37) hx hb d_B_growTo_8 (by decide) (by omega) (by omega) (fun hc => ?_) (fun hc => ?_)
      · skip
        exact wz_vret hx hb hr hlocks hK hP hD hS d_B_growTo_37 ⟨G1, st1, sl1, L1, S1, fa1, wy1, re1, ly1, dp1, cb1, rfl, hball1, hdl1, (by cases cb1 with | true => exact Or.inl rfl | false => exact absurd (h9 rfl) (by omega)), hp1, hok1, hbl1⟩
      · skip
        refine lv_aload_n hx hb d_B_growTo_11 rfl (lv_at hl 0 rfl) ?_
        refine wz_get (v := .int (nI dp1)) (T := T_B) (N := 11) hx hb hts i_B hown hK hP 0 0 rfl rfl rfl 8 (by decide) (hts _ kw_230) rfl rfl d_B_growTo_12 ?_
        refine lv_iload_n hx hb d_B_growTo_15 rfl (lv_at hl 1 rfl) ?_
        refine wz_ge (tgt := 37) hx hb d_B_growTo_16 (by decide) (by omega) (by omega) (fun hc2 => ?_) (fun hc2 => ?_)
        · skip
          exact wz_vret hx hb hr hlocks hK hP hD hS d_B_growTo_37 ⟨G1, st1, sl1, L1, S1, fa1, wy1, re1, ly1, dp1, cb1, rfl, hball1, hdl1, (Or.inr hc2), hp1, hok1, hbl1⟩
        · skip
          refine lv_aload_n hx hb d_B_growTo_19 rfl (lv_at hl 0 rfl) ?_
          refine wz_get (v := .int (bl_b cb1)) (T := T_B) (N := 11) hx hb hts i_B hown hK hP 0 0 rfl rfl rfl 10 (by decide) (hts _ kw_235) rfl rfl d_B_growTo_20 ?_
          refine lv_if_ne (tgt := 37) hx hb d_B_growTo_23 (by decide) (fun hc3 => ?_) (fun hc3 => ?_)
          · skip
            exact wz_vret hx hb hr hlocks hK hP hD hS d_B_growTo_37 ⟨G1, st1, sl1, L1, S1, fa1, wy1, re1, ly1, dp1, cb1, rfl, hball1, hdl1, (by cases cb1 with | true => exact Or.inl rfl | false => exact absurd rfl hc3), hp1, hok1, hbl1⟩
          · skip
            have hcb1 : cb1 = false := by cases cb1 with | true => exact absurd hc3 (by decide) | false => rfl
            subst hcb1
            refine lv_aload_n hx hb d_B_growTo_26 rfl (lv_at hl 0 rfl) ?_
            have hQ := wz_split (n := 5) (gc := [bl_W q ab (am 0) (ag 0) fw (pz_fact n) fa1 wy1 re1 S1.1.length ly1 dp1 me (bl_b false), gq_W q ag (am 0) (pz_fact n) (2 ^ b) (32 - b) rl st1 sl1 G1.length, wz_rows 12 rl (fun i9 => .inl (q.1, pz_fact n, .inl (L1 i9))), mv_W q am n k rt fo, wz_rows 12 rt (fun i9 => .inl (q.1, 8, .inl (M i9)))]) (gr := []) [0, 1, 2, 3, 4] [] rfl (by decide) rfl rfl hP hD
            refine wz_calli (va_runV (As := []) (rest := []) ⟨hx, hb, hml, hown, hts⟩ (c_B_grow l D q ab ag am n b k fw rl rt fo M sg tu od a0 G1 st1 sl1 L1 S1 fa1 wy1 re1 ly1 dp1 me (bl_b false) r0 false hn hb0 hb30 hM hk hfw hmv hok1 hbl1 hball1 rfl hdl1 _) (cwV 0 hts (wz_goodV kw_413 kw_352 kw_353 kw_36 kw_354) rfl rfl rfl (by decide +kernel) ⟨Nat.le_of_ble_eq_true rfl, Nat.le_of_ble_eq_true rfl⟩) (wz_preV (gi := 0) (k := 0) hN hK hQ wz_L_ok rfl rfl rfl) rfl rfl hl.1 rfl (lv_room (Nat.le_of_ble_eq_true rfl)) d_B_growTo_27 ⟨Nat.le_of_ble_eq_true rfl, Nat.le_of_ble_eq_true rfl⟩) hQ hS hA (fun v_27 gx H locs hp hP hD hS => ?_)
            obtain ⟨G2, st2, sl2, L2, S2, fa2, wy2, re2, ly2, dp2, cb2, rfl, hball2, hdl2, hres, ⟨Nb, hNb⟩, hok2, hbl2⟩ := hp
            obtain ⟨Na, hNa⟩ := hp1
            obtain ⟨hP, hD⟩ := wz_ord (n := 5) (gs' := [bl_W q ab (am 0) (ag 0) fw (pz_fact n) fa2 wy2 re2 S2.1.length ly2 dp2 me (bl_b cb2), gq_W q ag (am 0) (pz_fact n) (2 ^ b) (32 - b) rl st2 sl2 G2.length, wz_rows 12 rl (fun i9 => .inl (q.1, pz_fact n, .inl (L2 i9))), mv_W q am n k rt fo, wz_rows 12 rt (fun i9 => .inl (q.1, 8, .inl (M i9)))]) [0, 1, 2, 3, 4] rfl (by decide) rfl hP hD
            refine lv_pop hx hb d_B_growTo_30 rfl ?_
            refine lv_iinc (v := nI (t + 1)) (lv' := [(2, .int (nI (t + 1))), (0, .ref (ab 0)), (1, .int (nI D9))]) hx hb d_B_growTo_31 hl (k := 2) rfl (nI_1 t) (by decide) rfl (fun ls hl => ?_)
            refine lv_goto (tgt := 2) hx hb d_B_growTo_34 (by decide) ?_
            exact ih (t + 1) G2 st2 sl2 L2 S2 fa2 wy2 re2 ly2 dp2 cb2 (by omega) (by omega) ⟨Na ++ Nb, by rw [hNb, hNa, List.append_assoc]⟩ hok2 hbl2 hball2 hdl2 (fun e0 => by
              rcases hres with q | q
              · rw [q.1] at e0; cases e0
              · have := h9 rfl; omega) _ _ _ hP hD hS (lv_sub hl [1, 2, 0] rfl)
  exact loop (pz_fact n + 1) 0 G st sl L S fa wy re ly dp cb (by omega) (by omega) ⟨[], by simp⟩ hok hbl hball hdl (fun _ => by omega) _ _ _ hP hD hS (lv_sub hl [1, 2, 0] rfl)
def po_B_growWhole (q : wz_Q) (ab ag am : Nat → Nat) (n b k fw : Nat) (rl rt : Nat → Nat) (fo : Nat → Int32) (M : Nat → Nat → Int32) (sg tu : Nat → Nat → Nat) (od : Nat → Nat) (a0 : Nat) (G : List Nat) (st sl : Nat → Int32) (L : Nat → Nat → Int32) (S : pz_S) (fa : Nat → Int32) (wy : Nat → Int64) (re : Nat → Int32) (ly dp : Nat) (me cm : Int32) (r0 : Nat) (cb : Bool) : wz_G → Prop := fun w => ∃ (G' : List Nat) (st' sl' : Nat → Int32) (L' : Nat → Nat → Int32) (S' : pz_S) (fa' : Nat → Int32) (wy' : Nat → Int64) (re' : Nat → Int32) (ly' dp' : Nat), w = [bl_W q ab (am 0) (ag 0) fw (pz_fact n) fa' wy' re' S'.1.length ly' dp' me (bl_b true), gq_W q ag (am 0) (pz_fact n) (2 ^ b) (32 - b) rl st' sl' G'.length, wz_rows 12 rl (fun i9 => .inl (q.1, pz_fact n, .inl (L' i9))), mv_W q am n k rt fo, wz_rows 12 rt (fun i9 => .inl (q.1, 8, .inl (M i9)))] ∧ pz_ball (bl_s n k fw sg tu od me) r0 ly' dp' true S' ∧ dp' ≤ ly' ∧ (∃ Nw, G' = G ++ Nw) ∧ gq_ok n a0 b k sg tu G' st' sl' L' ∧ bl_ok (pz_fact n) G' S' fa' wy' re'
set_option maxHeartbeats 4000000 in
set_option maxRecDepth 100000 in
/-- all layers -/
theorem c_B_growWhole (l : Launch) (D : va_G) (q : wz_Q) (ab ag am : Nat → Nat) (n b k fw : Nat) (rl rt : Nat → Nat) (fo : Nat → Int32) (M : Nat → Nat → Int32) (sg tu : Nat → Nat → Nat) (od : Nat → Nat) (a0 : Nat) (G : List Nat) (st sl : Nat → Int32) (L : Nat → Nat → Int32) (S : pz_S) (fa : Nat → Int32) (wy : Nat → Int64) (re : Nat → Int32) (ly dp : Nat) (me cm : Int32) (r0 : Nat) (cb : Bool) (hn : n ≤ 8) (hb0 : 0 < b) (hb30 : b ≤ 30) (hM : pz_fact n < 2 ^ b) (hk : k ≤ 6) (hfw : fw = 0 ∨ fw = 6) (hmv : mv_ok n k fo M sg tu od) (hok : gq_ok n a0 b k sg tu G st sl L) (hbl : bl_ok (pz_fact n) G S fa wy re) (hball : pz_ball (bl_s n k fw sg tu od me) r0 ly dp cb S) (hcm : cm = bl_b cb) (hdl : dp ≤ ly) : wz_Mv l y_B_growWhole ws_B_growWhole ({ frames := 6, cells := 0, slots := 0, locals := 142 } : Room) D q ([.ref (ab 0)] : List Value) [bl_W q ab (am 0) (ag 0) fw (pz_fact n) fa wy re S.1.length ly dp me cm, gq_W q ag (am 0) (pz_fact n) (2 ^ b) (32 - b) rl st sl G.length, wz_rows 12 rl (fun i9 => .inl (q.1, pz_fact n, .inl (L i9))), mv_W q am n k rt fo, wz_rows 12 rt (fun i9 => .inl (q.1, 8, .inl (M i9)))] (po_B_growWhole q ab ag am n b k fw rl rt fo M sg tu od a0 G st sl L S fa wy re ly dp me cm r0 cb) 0 0 := by
  intro sz9
  refine wz_enter (cc := b_B_growWhole) (maxL := 1) (ret := none) (Qc := fun A => (va_Qv (po_B_growWhole q ab ag am n b k fw rl rt fo M sg tu od a0 G st sl L S fa wy re ly dp me cm r0 cb) (wz_At D q A) A)) (by decide) (Nat.le_of_ble_eq_true rfl) ?_
  intro p e s m below meth c A ls C hP hD hS hl
  obtain ⟨hx, hb, hr, hml, hlocks, hown, hts, hN, hK, hA, hnm⟩ := C
  have hown : s.vm.findClass "TwoEndSearch$Ball" = some m.cls := hown
  have hl : lv_has ls 1 [(0, .ref (ab 0))] := hl
  have hfl := pz_fact_le hn
  refine lv_aload_n hx hb d_B_growWhole_0 rfl (lv_at hl 0 rfl) ?_
  refine lv_aload_n hx hb d_B_growWhole_1 rfl (lv_at hl 0 rfl) ?_
  refine wz_get (v := .ref (ab 1)) (T := T_B) (N := 11) hx hb hts i_B hown hK hP 0 0 rfl rfl rfl 3 (by decide) (hts _ kw_220) rfl rfl d_B_growWhole_2 ?_
  refine wz_alen hx hb hK hP 0 1 (n := pz_fact n) rfl rfl d_B_growWhole_5 ?_
  have hQ := wz_split (n := 5) (gc := [bl_W q ab (am 0) (ag 0) fw (pz_fact n) fa wy re S.1.length ly dp me cm, gq_W q ag (am 0) (pz_fact n) (2 ^ b) (32 - b) rl st sl G.length, wz_rows 12 rl (fun i9 => .inl (q.1, pz_fact n, .inl (L i9))), mv_W q am n k rt fo, wz_rows 12 rt (fun i9 => .inl (q.1, 8, .inl (M i9)))]) (gr := []) [0, 1, 2, 3, 4] [] rfl (by decide) rfl rfl hP hD
  refine wz_callv (va_runV (As := [.int (nI (pz_fact n))]) (rest := []) ⟨hx, hb, hml, hown, hts⟩ (c_B_growTo l D q ab ag am n b k fw rl rt fo M sg tu od a0 G st sl L S fa wy re ly dp me cm r0 cb (pz_fact n) hn hb0 hb30 hM hk hfw hmv hok hbl hball hcm hdl (by omega) _) (cwV 1 hts (wz_goodV kw_431 kw_410 kw_411 kw_36 kw_412) rfl rfl rfl (by decide +kernel) ⟨Nat.le_of_ble_eq_true rfl, Nat.le_of_ble_eq_true rfl⟩) (wz_preV (gi := 0) (k := 0) hN hK hQ wz_L_ok rfl rfl rfl) rfl rfl hl.1 rfl (lv_room (Nat.le_of_ble_eq_true rfl)) d_B_growWhole_6 ⟨Nat.le_of_ble_eq_true rfl, Nat.le_of_ble_eq_true rfl⟩) hQ hS hA (fun gx H locs hp hP hD hS => ?_)
  obtain ⟨G2, st2, sl2, L2, S2, fa2, wy2, re2, ly2, dp2, cb2, rfl, hball2, hdl2, hres, hp2, hok2, hbl2⟩ := hp
  have hS2l := bl_len hbl2
  have hG2l := gq_len hok2
  have hly2 := hball2.2.1
  obtain rfl : cb2 = true := hres.resolve_right (by omega)
  obtain ⟨hP, hD⟩ := wz_ord (n := 5) (gs' := [bl_W q ab (am 0) (ag 0) fw (pz_fact n) fa2 wy2 re2 S2.1.length ly2 dp2 me (bl_b true), gq_W q ag (am 0) (pz_fact n) (2 ^ b) (32 - b) rl st2 sl2 G2.length, wz_rows 12 rl (fun i9 => .inl (q.1, pz_fact n, .inl (L2 i9))), mv_W q am n k rt fo, wz_rows 12 rt (fun i9 => .inl (q.1, 8, .inl (M i9)))]) [0, 1, 2, 3, 4] rfl (by decide) rfl hP hD
  exact wz_vret hx hb hr hlocks hK hP hD hS d_B_growWhole_9 ⟨G2, st2, sl2, L2, S2, fa2, wy2, re2, ly2, dp2, rfl, hball2, hdl2, hp2, hok2, hbl2⟩
def po_B_sizeOfLayer (q : wz_Q) (ab : Nat → Nat) (mr gr fw cap : Nat) (fa : Nat → Int32) (wy : Nat → Int64) (re : Nat → Int32) (ly dp : Nat) (me cm : Int32) (G : List Nat) (S : pz_S) (D9 : Nat) : Int32 → wz_G → Prop := fun v w => w = [bl_W q ab mr gr fw cap fa wy re S.1.length ly dp me cm] ∧ ∃ c9, v = nI c9 ∧ ((dp < D9 ∧ c9 = 0) ∨ (D9 ≤ dp ∧ ∃ m0 m1, bl_cw S D9 m0 ∧ bl_cw S (D9 + 1) m1 ∧ m0 ≤ m1 ∧ c9 = m1 - m0))
set_option maxHeartbeats 4000000 in
set_option maxRecDepth 100000 in
/-- how many lie just so far -/
theorem c_B_sizeOfLayer (l : Launch) (D : va_G) (q : wz_Q) (ab : Nat → Nat) (mr gr fw cap : Nat) (fa : Nat → Int32) (wy : Nat → Int64) (re : Nat → Int32) (ly dp : Nat) (me cm : Int32) (G : List Nat) (S : pz_S) (D9 : Nat) (hcap : cap ≤ 40320) (hGc : G.length ≤ cap) (hS1 : bl_ok cap G S fa wy re) (hSl : ∀ x e, S.2.1 x = some e → e < 2 ^ 30) (hD9 : D9 < 2 ^ 31) (hdp : dp < 2 ^ 30) (hcw : ∀ d, ∃ m, bl_cw S d m) : wz_Mi l y_B_sizeOfLayer ws_B_sizeOfLayer ({ frames := 1, cells := 0, slots := 0, locals := 24 } : Room) D q ([.ref (ab 0), .int (nI D9)] : List Value) [bl_W q ab mr gr fw cap fa wy re S.1.length ly dp me cm] (po_B_sizeOfLayer q ab mr gr fw cap fa wy re ly dp me cm G S D9) 0 0 := by
  intro sz9
  refine wz_enter (cc := b_B_sizeOfLayer) (maxL := 2) (ret := (some .int)) (Qc := fun A => (va_Qi (po_B_sizeOfLayer q ab mr gr fw cap fa wy re ly dp me cm G S D9) (wz_At D q A) A)) (by decide) (Nat.le_of_ble_eq_true rfl) ?_
  intro p e s m below meth c A ls C hP hD hS hl
  obtain ⟨hx, hb, hr, hml, hlocks, hown, hts, hN, hK, hA, hnm⟩ := C
  have hown : s.vm.findClass "TwoEndSearch$Ball" = some m.cls := hown
  have hl : lv_has ls 2 [(0, .ref (ab 0)), (1, .int (nI D9))] := hl
  refine lv_iload_n hx hb d_B_sizeOfLayer_0 rfl (lv_at hl 1 rfl) ?_
  refine lv_aload_n hx hb d_B_sizeOfLayer_1 rfl (lv_at hl 0 rfl) ?_
  refine wz_get (v := .int (nI dp)) (T := T_B) (N := 11) hx hb hts i_B hown hK hP 0 0 rfl rfl rfl 8 (by decide) (hts _ kw_230) rfl rfl d_B_sizeOfLayer_2 ?_
  refine wz_le (tgt := 12) hx hb d_B_sizeOfLayer_5 (by decide) (by omega) (by omega) (fun hc => ?_) (fun hc => ?_)
  · skip
    obtain ⟨m0, hm0⟩ := hcw D9
    obtain ⟨m1, hm1⟩ := hcw (D9 + 1)
    have hmm := bl_cw_mono hS1.1 hm0 hm1
    have hm1l := hm1.1
    have hSn := bl_len hS1
    refine lv_aload_n hx hb d_B_sizeOfLayer_12 rfl (lv_at hl 0 rfl) ?_
    refine lv_iload_n hx hb d_B_sizeOfLayer_13 rfl (lv_at hl 1 rfl) ?_
    refine wz_topi (y := (nI (D9 + 1) - nI 1)) (show nI D9 = _ from (pk_sub (a := D9 + 1) (b := 1) (by omega)).symm) ?_
    have hQ := wz_split (n := 1) (gc := [bl_W q ab mr gr fw cap fa wy re S.1.length ly dp me cm]) (gr := []) [0] [] rfl (by decide) rfl rfl hP hD
    refine wz_calli (va_runV (As := [.int (nI (D9 + 1) - nI 1)]) (rest := []) ⟨hx, hb, hml, hown, hts⟩ (c_B_countWithin l D q ab mr gr fw cap fa wy re ly dp me cm G S (D9 + 1) m1 hcap hGc hS1 hSl (by omega) hm1 _) (cwV 1 hts (wz_goodV kw_418 kw_420 kw_15 kw_36 kw_421) rfl rfl rfl (by decide +kernel) ⟨Nat.le_of_ble_eq_true rfl, Nat.le_of_ble_eq_true rfl⟩) (wz_preV (gi := 0) (k := 0) hN hK hQ wz_L_ok rfl rfl rfl) rfl rfl hl.1 rfl (lv_room (Nat.le_of_ble_eq_true rfl)) d_B_sizeOfLayer_14 ⟨Nat.le_of_ble_eq_true rfl, Nat.le_of_ble_eq_true rfl⟩) hQ hS hA (fun v_14 gx H locs hp hP hD hS => ?_)
    obtain ⟨rfl, rfl⟩ := hp
    obtain ⟨hP, hD⟩ := wz_ord (n := 1) (gs' := [bl_W q ab mr gr fw cap fa wy re S.1.length ly dp me cm]) [0] rfl (by decide) rfl hP hD
    refine lv_aload_n hx hb d_B_sizeOfLayer_17 rfl (lv_at hl 0 rfl) ?_
    refine lv_iload_n hx hb d_B_sizeOfLayer_18 rfl (lv_at hl 1 rfl) ?_
    refine lv_iconst (v := nI 1) hx hb d_B_sizeOfLayer_19 (by decide) ?_
    refine lv_isub hx hb d_B_sizeOfLayer_20 ?_
    have hQ := wz_split (n := 1) (gc := [bl_W q ab mr gr fw cap fa wy re S.1.length ly dp me cm]) (gr := []) [0] [] rfl (by decide) rfl rfl hP hD
    refine wz_calli (va_runV (As := [.int ((nI D9) - (nI 1))]) (rest := [.int (nI m1)]) ⟨hx, hb, hml, hown, hts⟩ (c_B_countWithin l D q ab mr gr fw cap fa wy re ly dp me cm G S D9 m0 hcap hGc hS1 hSl (by omega) hm0 _) (cwV 1 hts (wz_goodV kw_418 kw_420 kw_15 kw_36 kw_421) rfl rfl rfl (by decide +kernel) ⟨Nat.le_of_ble_eq_true rfl, Nat.le_of_ble_eq_true rfl⟩) (wz_preV (gi := 0) (k := 0) hN hK hQ wz_L_ok rfl rfl rfl) rfl rfl hl.1 rfl (lv_room (Nat.le_of_ble_eq_true rfl)) d_B_sizeOfLayer_21 ⟨Nat.le_of_ble_eq_true rfl, Nat.le_of_ble_eq_true rfl⟩) hQ hS hA (fun v_21 gx H locs hp hP hD hS => ?_)
    obtain ⟨rfl, rfl⟩ := hp
    obtain ⟨hP, hD⟩ := wz_ord (n := 1) (gs' := [bl_W q ab mr gr fw cap fa wy re S.1.length ly dp me cm]) [0] rfl (by decide) rfl hP hD
    refine lv_isub hx hb d_B_sizeOfLayer_24 ?_
    refine wz_topi (y := nI (m1 - m0)) (pk_sub hmm) ?_
    exact wz_iret hx hb hr hlocks hK hP hD hS d_B_sizeOfLayer_25 ⟨rfl, m1 - m0, rfl, Or.inr ⟨hc, m0, m1, hm0, hm1, hmm, rfl⟩⟩
  · skip
    refine lv_iconst (v := nI 0) hx hb d_B_sizeOfLayer_8 (by decide) ?_
    refine lv_goto (tgt := 25) hx hb d_B_sizeOfLayer_9 (by decide) ?_
    exact wz_iret hx hb hr hlocks hK hP hD hS d_B_sizeOfLayer_25 ⟨rfl, 0, rfl, Or.inl ⟨hc, rfl⟩⟩
end
section
/-! MODULE Search -/
def se_W (q : wz_Q) (a : Nat → Nat) (n : Nat) (mr : Nat) (gr : Nat) (r1 : Nat) (r2 : Nat) (r3 : Nat) (cap : Nat) (rw : Nat → Int32) (bg : Int32) (sx : Nat) (ro : Nat) (ln : Int32) (wz : Int64) : va_W := [(a 0, .inr (3, [.int (nI n), .ref mr, .ref gr, .ref r1, .ref r2, .ref r3, .ref (a 1), .int bg, .int (nI sx), .int (nI ro), .int ln, .long wz])), (a 1, .inl (q.1, cap, .inl rw))]
theorem d_S_meet_0 : decode b_S_meet 0 = .ok (.aload_n 0, 1) := by decide +kernel
theorem d_S_meet_1 : decode b_S_meet 1 = .ok (.getfield 47, 3) := by decide +kernel
theorem d_S_meet_4 : decode b_S_meet 4 = .ok (.aload_n 1, 1) := by decide +kernel
theorem d_S_meet_5 : decode b_S_meet 5 = .ok (.invokevirtual 104, 3) := by decide +kernel
theorem d_S_meet_8 : decode b_S_meet 8 = .ok (.ifCond .eq 29, 3) := by decide +kernel
theorem d_S_meet_11 : decode b_S_meet 11 = .ok (.aload_n 1, 1) := by decide +kernel
theorem d_S_meet_12 : decode b_S_meet 12 = .ok (.getfield 108, 3) := by decide +kernel
theorem d_S_meet_15 : decode b_S_meet 15 = .ok (.aload_n 0, 1) := by decide +kernel
theorem d_S_meet_16 : decode b_S_meet 16 = .ok (.getfield 47, 3) := by decide +kernel
theorem d_S_meet_19 : decode b_S_meet 19 = .ok (.getfield 111, 3) := by decide +kernel
theorem d_S_meet_22 : decode b_S_meet 22 = .ok (.iconst 0, 1) := by decide +kernel
theorem d_S_meet_23 : decode b_S_meet 23 = .ok (.iaload, 1) := by decide +kernel
theorem d_S_meet_24 : decode b_S_meet 24 = .ok (.iaload, 1) := by decide +kernel
theorem d_S_meet_25 : decode b_S_meet 25 = .ok (.istore_n 3, 1) := by decide +kernel
theorem d_S_meet_26 : decode b_S_meet 26 = .ok (.iload_n 3, 1) := by decide +kernel
theorem d_S_meet_27 : decode b_S_meet 27 = .ok (.iload_n 2, 1) := by decide +kernel
theorem d_S_meet_28 : decode b_S_meet 28 = .ok (.if_icmp .gt 7, 3) := by decide +kernel
theorem d_S_meet_31 : decode b_S_meet 31 = .ok (.iload_n 3, 1) := by decide +kernel
theorem d_S_meet_32 : decode b_S_meet 32 = .ok (.goto 4, 3) := by decide +kernel
theorem d_S_meet_35 : decode b_S_meet 35 = .ok (.iconst (-1), 1) := by decide +kernel
theorem d_S_meet_36 : decode b_S_meet 36 = .ok (.ireturn, 1) := by decide +kernel
theorem d_S_meet_37 : decode b_S_meet 37 = .ok (.iconst 0, 1) := by decide +kernel
theorem d_S_meet_38 : decode b_S_meet 38 = .ok (.istore_n 3, 1) := by decide +kernel
theorem d_S_meet_39 : decode b_S_meet 39 = .ok (.iload_n 3, 1) := by decide +kernel
theorem d_S_meet_40 : decode b_S_meet 40 = .ok (.iconst 2, 1) := by decide +kernel
theorem d_S_meet_41 : decode b_S_meet 41 = .ok (.aload_n 0, 1) := by decide +kernel
theorem d_S_meet_42 : decode b_S_meet 42 = .ok (.getfield 50, 3) := by decide +kernel
theorem d_S_meet_45 : decode b_S_meet 45 = .ok (.arraylength, 1) := by decide +kernel
theorem d_S_meet_46 : decode b_S_meet 46 = .ok (.imul, 1) := by decide +kernel
theorem d_S_meet_47 : decode b_S_meet 47 = .ok (.if_icmp .ge 114, 3) := by decide +kernel
theorem d_S_meet_50 : decode b_S_meet 50 = .ok (.aload_n 1, 1) := by decide +kernel
theorem d_S_meet_51 : decode b_S_meet 51 = .ok (.getfield 114, 3) := by decide +kernel
theorem d_S_meet_54 : decode b_S_meet 54 = .ok (.aload_n 0, 1) := by decide +kernel
theorem d_S_meet_55 : decode b_S_meet 55 = .ok (.getfield 47, 3) := by decide +kernel
theorem d_S_meet_58 : decode b_S_meet 58 = .ok (.getfield 114, 3) := by decide +kernel
theorem d_S_meet_61 : decode b_S_meet 61 = .ok (.iadd, 1) := by decide +kernel
theorem d_S_meet_62 : decode b_S_meet 62 = .ok (.iload_n 2, 1) := by decide +kernel
theorem d_S_meet_63 : decode b_S_meet 63 = .ok (.if_icmp .ge 10, 3) := by decide +kernel
theorem d_S_meet_66 : decode b_S_meet 66 = .ok (.aload_n 1, 1) := by decide +kernel
theorem d_S_meet_67 : decode b_S_meet 67 = .ok (.getfield 117, 3) := by decide +kernel
theorem d_S_meet_70 : decode b_S_meet 70 = .ok (.ifCond .eq 5, 3) := by decide +kernel
theorem d_S_meet_73 : decode b_S_meet 73 = .ok (.iconst (-1), 1) := by decide +kernel
theorem d_S_meet_74 : decode b_S_meet 74 = .ok (.ireturn, 1) := by decide +kernel
theorem d_S_meet_75 : decode b_S_meet 75 = .ok (.aload_n 1, 1) := by decide +kernel
theorem d_S_meet_76 : decode b_S_meet 76 = .ok (.invokevirtual 120, 3) := by decide +kernel
theorem d_S_meet_79 : decode b_S_meet 79 = .ok (.aload_n 0, 1) := by decide +kernel
theorem d_S_meet_80 : decode b_S_meet 80 = .ok (.getfield 47, 3) := by decide +kernel
theorem d_S_meet_83 : decode b_S_meet 83 = .ok (.invokevirtual 120, 3) := by decide +kernel
theorem d_S_meet_86 : decode b_S_meet 86 = .ok (.if_icmp .gt 7, 3) := by decide +kernel
theorem d_S_meet_89 : decode b_S_meet 89 = .ok (.iconst 1, 1) := by decide +kernel
theorem d_S_meet_90 : decode b_S_meet 90 = .ok (.goto 4, 3) := by decide +kernel
theorem d_S_meet_93 : decode b_S_meet 93 = .ok (.iconst 0, 1) := by decide +kernel
theorem d_S_meet_94 : decode b_S_meet 94 = .ok (.istore 4, 2) := by decide +kernel
theorem d_S_meet_96 : decode b_S_meet 96 = .ok (.iload 4, 2) := by decide +kernel
theorem d_S_meet_98 : decode b_S_meet 98 = .ok (.ifCond .eq 7, 3) := by decide +kernel
theorem d_S_meet_101 : decode b_S_meet 101 = .ok (.aload_n 1, 1) := by decide +kernel
theorem d_S_meet_102 : decode b_S_meet 102 = .ok (.goto 7, 3) := by decide +kernel
theorem d_S_meet_105 : decode b_S_meet 105 = .ok (.aload_n 0, 1) := by decide +kernel
theorem d_S_meet_106 : decode b_S_meet 106 = .ok (.getfield 47, 3) := by decide +kernel
theorem d_S_meet_109 : decode b_S_meet 109 = .ok (.astore 5, 2) := by decide +kernel
theorem d_S_meet_111 : decode b_S_meet 111 = .ok (.aload 5, 2) := by decide +kernel
theorem d_S_meet_113 : decode b_S_meet 113 = .ok (.invokevirtual 124, 3) := by decide +kernel
theorem d_S_meet_116 : decode b_S_meet 116 = .ok (.ifCond .ne 5, 3) := by decide +kernel
theorem d_S_meet_119 : decode b_S_meet 119 = .ok (.iconst (-1), 1) := by decide +kernel
theorem d_S_meet_120 : decode b_S_meet 120 = .ok (.ireturn, 1) := by decide +kernel
theorem d_S_meet_121 : decode b_S_meet 121 = .ok (.aload 5, 2) := by decide +kernel
theorem d_S_meet_123 : decode b_S_meet 123 = .ok (.iload 4, 2) := by decide +kernel
theorem d_S_meet_125 : decode b_S_meet 125 = .ok (.ifCond .eq 10, 3) := by decide +kernel
theorem d_S_meet_128 : decode b_S_meet 128 = .ok (.aload_n 0, 1) := by decide +kernel
theorem d_S_meet_129 : decode b_S_meet 129 = .ok (.getfield 47, 3) := by decide +kernel
theorem d_S_meet_132 : decode b_S_meet 132 = .ok (.goto 4, 3) := by decide +kernel
theorem d_S_meet_135 : decode b_S_meet 135 = .ok (.aload_n 1, 1) := by decide +kernel
theorem d_S_meet_136 : decode b_S_meet 136 = .ok (.invokevirtual 104, 3) := by decide +kernel
theorem d_S_meet_139 : decode b_S_meet 139 = .ok (.ifCond .eq 16, 3) := by decide +kernel
theorem d_S_meet_142 : decode b_S_meet 142 = .ok (.aload_n 1, 1) := by decide +kernel
theorem d_S_meet_143 : decode b_S_meet 143 = .ok (.getfield 114, 3) := by decide +kernel
theorem d_S_meet_146 : decode b_S_meet 146 = .ok (.aload_n 0, 1) := by decide +kernel
theorem d_S_meet_147 : decode b_S_meet 147 = .ok (.getfield 47, 3) := by decide +kernel
theorem d_S_meet_150 : decode b_S_meet 150 = .ok (.getfield 114, 3) := by decide +kernel
theorem d_S_meet_153 : decode b_S_meet 153 = .ok (.iadd, 1) := by decide +kernel
theorem d_S_meet_154 : decode b_S_meet 154 = .ok (.ireturn, 1) := by decide +kernel
theorem d_S_meet_155 : decode b_S_meet 155 = .ok (.iinc 3 1, 3) := by decide +kernel
theorem d_S_meet_158 : decode b_S_meet 158 = .ok (.goto (-119), 3) := by decide +kernel
theorem d_S_meet_161 : decode b_S_meet 161 = .ok (.iconst (-1), 1) := by decide +kernel
theorem d_S_meet_162 : decode b_S_meet 162 = .ok (.ireturn, 1) := by decide +kernel
theorem kw_266 : (Cond.fieldLink "TwoEndSearch$Search" 47 "TwoEndSearch$Search" "back" "LTwoEndSearch$Ball;" : Cond) ∈ bigW := bigW_of 266 (by decide +kernel) (by decide +kernel)
theorem kw_267 : (Cond.fieldLink "TwoEndSearch$Search" 50 "TwoEndSearch$Search" "row" "[I" : Cond) ∈ bigW := bigW_of 267 (by decide +kernel) (by decide +kernel)
theorem kw_343 : (Cond.methodLink "TwoEndSearch$Search" 104 ⟨"TwoEndSearch$Ball", "lastLayerMeets", "(LTwoEndSearch$Ball;)Z"⟩ : Cond) ∈ bigW := bigW_of 343 (by decide +kernel) (by decide +kernel)
theorem kw_344 : (Cond.instanceMethod ⟨"TwoEndSearch$Ball", "lastLayerMeets", "(LTwoEndSearch$Ball;)Z"⟩ : Cond) ∈ bigW := bigW_of 344 (by decide +kernel) (by decide +kernel)
theorem kw_345 : (Cond.selects "TwoEndSearch$Ball" ⟨"TwoEndSearch$Ball", "lastLayerMeets", "(LTwoEndSearch$Ball;)Z"⟩ ⟨"TwoEndSearch$Ball", "lastLayerMeets", "(LTwoEndSearch$Ball;)Z"⟩ : Cond) ∈ bigW := bigW_of 345 (by decide +kernel) (by decide +kernel)
theorem kw_346 : (Cond.code ⟨"TwoEndSearch$Ball", "lastLayerMeets", "(LTwoEndSearch$Ball;)Z"⟩ prog_2_method_9_code 3 (some .boolean) : Cond) ∈ bigW := bigW_of 346 (by decide +kernel) (by decide +kernel)
theorem kw_347 : (Cond.methodLink "TwoEndSearch$Search" 120 ⟨"TwoEndSearch$Ball", "sizeOfLastLayer", "()I"⟩ : Cond) ∈ bigW := bigW_of 347 (by decide +kernel) (by decide +kernel)
theorem kw_348 : (Cond.instanceMethod ⟨"TwoEndSearch$Ball", "sizeOfLastLayer", "()I"⟩ : Cond) ∈ bigW := bigW_of 348 (by decide +kernel) (by decide +kernel)
theorem kw_349 : (Cond.selects "TwoEndSearch$Ball" ⟨"TwoEndSearch$Ball", "sizeOfLastLayer", "()I"⟩ ⟨"TwoEndSearch$Ball", "sizeOfLastLayer", "()I"⟩ : Cond) ∈ bigW := bigW_of 349 (by decide +kernel) (by decide +kernel)
theorem kw_350 : (Cond.code ⟨"TwoEndSearch$Ball", "sizeOfLastLayer", "()I"⟩ prog_2_method_8_code 1 (some .int) : Cond) ∈ bigW := bigW_of 350 (by decide +kernel) (by decide +kernel)
theorem kw_351 : (Cond.methodLink "TwoEndSearch$Search" 124 ⟨"TwoEndSearch$Ball", "grow", "()Z"⟩ : Cond) ∈ bigW := bigW_of 351 (by decide +kernel) (by decide +kernel)
def po_S_meet (q : wz_Q) (as9 ah ak ag am : Nat → Nat) (n b k : Nat) (rl rt : Nat → Nat) (fo : Nat → Int32) (M : Nat → Nat → Int32) (sg tu : Nat → Nat → Nat) (od : Nat → Nat) (a0 r1 r2 : Nat) (rw : Nat → Int32) (bg : Int32) (sx ro : Nat) (ln : Int32) (wz : Int64) (G : List Nat) (st sl : Nat → Int32) (L : Nat → Nat → Int32) (S : pz_S) (fa : Nat → Int32) (wy : Nat → Int64) (re : Nat → Int32) (ly dp : Nat) (me cm : Int32) (T : pz_S) (fk : Nat → Int32) (wk : Nat → Int64) (rk : Nat → Int32) (lk dk : Nat) (ck : Int32) (sa gl : Nat) (ms9 : Nat) (cb cc : Bool) : Int32 → wz_G → Prop := fun v w => ∃ (G' : List Nat) (st' sl' : Nat → Int32) (L' : Nat → Nat → Int32) (S' : pz_S) (fa' : Nat → Int32) (wy' : Nat → Int64) (re' : Nat → Int32) (ly' dp' : Nat) (cb' : Bool) (T' : pz_S) (fk' : Nat → Int32) (wk' : Nat → Int64) (rk' : Nat → Int32) (lk' dk' : Nat) (cc' : Bool), w = [se_W q as9 n (am 0) (ag 0) r1 r2 (ak 0) (pz_fact n) rw bg sx ro ln wz, bl_W q ah (am 0) (ag 0) 0 (pz_fact n) fa' wy' re' S'.1.length ly' dp' me (bl_b cb'), bl_W q ak (am 0) (ag 0) 6 (pz_fact n) fk' wk' rk' T'.1.length lk' dk' me (bl_b cc'), gq_W q ag (am 0) (pz_fact n) (2 ^ b) (32 - b) rl st' sl' G'.length, wz_rows 12 rl (fun i9 => .inl (q.1, pz_fact n, .inl (L' i9))), mv_W q am n k rt fo, wz_rows 12 rt (fun i9 => .inl (q.1, 8, .inl (M i9)))] ∧ (∃ Nw, G' = G ++ Nw) ∧ gq_ok n a0 b k sg tu G' st' sl' L' ∧ bl_ok (pz_fact n) G' S' fa' wy' re' ∧ bl_ok (pz_fact n) G' T' fk' wk' rk' ∧ pz_ball (bl_s n k 0 sg tu od me) sa ly' dp' cb' S' ∧ pz_ball (bl_s n k 6 sg tu od me) gl lk' dk' cc' T' ∧ dp' ≤ ly' ∧ dk' ≤ lk' ∧ ((v = -1 ∧ ∀ K9, pz_dist (bl_s n k 0 sg tu od me) sa gl K9 → ms9 < K9) ∨ ∃ len i9, v = nI len ∧ pz_dist (bl_s n k 0 sg tu od me) sa gl len ∧ len ≤ ms9 ∧ len = i9 + dk' ∧ i9 ≤ dp')
set_option maxHeartbeats 4000000 in
set_option maxRecDepth 100000 in
/-- the balls grow until they meet -/
theorem c_S_meet (l : Launch) (D : va_G) (q : wz_Q) (as9 ah ak ag am : Nat → Nat) (n b k : Nat) (rl rt : Nat → Nat) (fo : Nat → Int32) (M : Nat → Nat → Int32) (sg tu : Nat → Nat → Nat) (od : Nat → Nat) (a0 r1 r2 : Nat) (rw : Nat → Int32) (bg : Int32) (sx ro : Nat) (ln : Int32) (wz : Int64) (G : List Nat) (st sl : Nat → Int32) (L : Nat → Nat → Int32) (S : pz_S) (fa : Nat → Int32) (wy : Nat → Int64) (re : Nat → Int32) (ly dp : Nat) (me cm : Int32) (T : pz_S) (fk : Nat → Int32) (wk : Nat → Int64) (rk : Nat → Int32) (lk dk : Nat) (ck : Int32) (sa gl : Nat) (ms9 : Nat) (cb cc : Bool) (hn : n ≤ 8) (hb0 : 0 < b) (hb30 : b ≤ 30) (hM : pz_fact n < 2 ^ b) (hk : k ≤ 6) (hmv : mv_ok n k fo M sg tu od) (hok : gq_ok n a0 b k sg tu G st sl L) (hblS : bl_ok (pz_fact n) G S fa wy re) (hblT : bl_ok (pz_fact n) G T fk wk rk) (hrv : ∀ u v, pz_cnt v (bl_s n k 0 sg tu od me u) = pz_cnt u (bl_s n k 6 sg tu od me v)) (hms : ms9 < 2 ^ 31) (hbS : pz_ball (bl_s n k 0 sg tu od me) sa ly dp cb S) (hcm : cm = bl_b cb) (hdS : dp ≤ ly) (hT0 : T = pz_S0 gl) (hlk : lk = 0) (hdk : dk = 0) (hck : ck = bl_b false) : wz_Mi l y_S_meet ws_S_meet ({ frames := 5, cells := 0, slots := 0, locals := 120 } : Room) D q ([.ref (as9 0), .ref (ah 0), .int (nI ms9)] : List Value) [se_W q as9 n (am 0) (ag 0) r1 r2 (ak 0) (pz_fact n) rw bg sx ro ln wz, bl_W q ah (am 0) (ag 0) 0 (pz_fact n) fa wy re S.1.length ly dp me cm, bl_W q ak (am 0) (ag 0) 6 (pz_fact n) fk wk rk T.1.length lk dk me ck, gq_W q ag (am 0) (pz_fact n) (2 ^ b) (32 - b) rl st sl G.length, wz_rows 12 rl (fun i9 => .inl (q.1, pz_fact n, .inl (L i9))), mv_W q am n k rt fo, wz_rows 12 rt (fun i9 => .inl (q.1, 8, .inl (M i9)))] (po_S_meet q as9 ah ak ag am n b k rl rt fo M sg tu od a0 r1 r2 rw bg sx ro ln wz G st sl L S fa wy re ly dp me cm T fk wk rk lk dk ck sa gl ms9 cb cc) 0 0 := by
  intro sz9
  refine wz_enter (cc := b_S_meet) (maxL := 6) (ret := (some .int)) (Qc := fun A => (va_Qi (po_S_meet q as9 ah ak ag am n b k rl rt fo M sg tu od a0 r1 r2 rw bg sx ro ln wz G st sl L S fa wy re ly dp me cm T fk wk rk lk dk ck sa gl ms9 cb cc) (wz_At D q A) A)) (by decide) (Nat.le_of_ble_eq_true rfl) ?_
  intro p e s m below meth c A ls C hP hD hS hl
  obtain ⟨hx, hb, hr, hml, hlocks, hown, hts, hN, hK, hA, hnm⟩ := C
  have hown : s.vm.findClass "TwoEndSearch$Search" = some m.cls := hown
  have hl : lv_has ls 6 [(0, .ref (as9 0)), (1, .ref (ah 0)), (2, .int (nI ms9))] := hl
  have hfl := pz_fact_le hn
  have hGl := gq_len hok
  have hSl := bl_len hblS
  have hTl := bl_len hblT
  have hlyS := hbS.2.1
  subst hcm; subst hlk; subst hdk; subst hck
  have hbT : pz_ball (bl_s n k 6 sg tu od me) gl 0 0 false T := by rw [hT0]; exact pz_ball_0 _ _
  have hlyT := hbT.2.1
  have hltS : ∀ x e, S.2.1 x = some e → e < 2 ^ 30 := pz_ball_lt hbS (by omega)
  refine lv_aload_n hx hb d_S_meet_0 rfl (lv_at hl 0 rfl) ?_
  refine wz_get (v := .ref (ak 0)) (T := T_S) (N := 12) hx hb hts i_S hown hK hP 0 0 rfl rfl rfl 5 (by decide) (hts _ kw_266) rfl rfl d_S_meet_1 ?_
  refine lv_aload_n hx hb d_S_meet_4 rfl (lv_at hl 1 rfl) ?_
  have hQ := wz_split (n := 7) (gc := [bl_W q ak (am 0) (ag 0) 6 (pz_fact n) fk wk rk T.1.length 0 0 me (bl_b false), bl_W q ah (am 0) (ag 0) 0 (pz_fact n) fa wy re S.1.length ly dp me (bl_b cb)]) (gr := [se_W q as9 n (am 0) (ag 0) r1 r2 (ak 0) (pz_fact n) rw bg sx ro ln wz, gq_W q ag (am 0) (pz_fact n) (2 ^ b) (32 - b) rl st sl G.length, wz_rows 12 rl (fun i9 => .inl (q.1, pz_fact n, .inl (L i9))), mv_W q am n k rt fo, wz_rows 12 rt (fun i9 => .inl (q.1, 8, .inl (M i9)))]) [2, 1] [0, 3, 4, 5, 6] rfl (by decide) rfl rfl hP hD
  refine wz_calli (va_runV (As := [.ref (ah 0)]) (rest := []) ⟨hx, hb, hml, hown, hts⟩ (c_B_lastLayerMeets l D q ak ah (am 0) (ag 0) 6 (pz_fact n) fk wk rk 0 0 me (bl_b false) 0 fa wy re S.1.length ly dp me (bl_b cb) G T S (by omega) hGl (by omega) hblT hblS hltS _) (cwV 1 hts (wz_goodV kw_343 kw_344 kw_345 kw_36 kw_346) rfl rfl rfl (by decide +kernel) ⟨Nat.le_of_ble_eq_true rfl, Nat.le_of_ble_eq_true rfl⟩) (wz_preV (gi := 0) (k := 0) hN hK hQ wz_L_ok rfl rfl rfl) rfl rfl hl.1 rfl (lv_room (Nat.le_of_ble_eq_true rfl)) d_S_meet_5 ⟨Nat.le_of_ble_eq_true rfl, Nat.le_of_ble_eq_true rfl⟩) hQ hS hA (fun v_5 gx H locs hp0 hP hD hS => ?_)
  obtain ⟨rfl, hp0⟩ := hp0
  obtain ⟨hP, hD⟩ := wz_ord (n := 7) (gs' := [se_W q as9 n (am 0) (ag 0) r1 r2 (ak 0) (pz_fact n) rw bg sx ro ln wz, bl_W q ah (am 0) (ag 0) 0 (pz_fact n) fa wy re S.1.length ly dp me (bl_b cb), bl_W q ak (am 0) (ag 0) 6 (pz_fact n) fk wk rk T.1.length 0 0 me (bl_b false), gq_W q ag (am 0) (pz_fact n) (2 ^ b) (32 - b) rl st sl G.length, wz_rows 12 rl (fun i9 => .inl (q.1, pz_fact n, .inl (L i9))), mv_W q am n k rt fo, wz_rows 12 rt (fun i9 => .inl (q.1, 8, .inl (M i9)))]) [2, 1, 0, 3, 4, 5, 6] rfl (by decide) rfl hP hD
  refine lv_if_eq (tgt := 37) hx hb d_S_meet_8 (by decide) (fun hc => ?_) (fun hc => ?_)
  · skip
    have hno0 : S.2.1 gl = none := by
      cases hq : S.2.1 gl with
      | none => rfl
      | some e => exact absurd ⟨0, gl, Nat.le_refl 0, by rw [hT0]; rfl, pz_sn hq⟩ (wz_bit_0 hp0 hc)
    have hno : ∀ x, ¬ (S.2.1 x ≠ none ∧ T.2.1 x ≠ none) := by
      rintro x ⟨q1, q2⟩
      by_cases e0 : x = gl
      · rw [e0] at q1; exact q1 hno0
      · rw [hT0] at q2; exact q2 (pz_up_n (fun _ => none) (some 0) e0)
    refine lv_iconst (v := nI 0) hx hb d_S_meet_37 (by decide) ?_
    refine lv_istore_n (lv' := [(3, .int (nI 0)), (0, .ref (as9 0)), (1, .ref (ah 0)), (2, .int (nI ms9))]) hx hb d_S_meet_38 rfl hl (by decide) rfl (fun ls hl => ?_)
    have loop : ∀ (d : Nat) (t : Nat) (G1 : List Nat) (st1 sl1 : Nat → Int32) (L1 : Nat → Nat → Int32) (S1 : pz_S) (fa1 : Nat → Int32) (wy1 : Nat → Int64) (re1 : Nat → Int32) (ly1 dp1 : Nat) (cb1 : Bool) (T1 : pz_S) (fk1 : Nat → Int32) (wk1 : Nat → Int64) (rk1 : Nat → Int32) (lk1 dk1 : Nat) (cc1 : Bool), (∃ Nw, G1 = G ++ Nw) → gq_ok n a0 b k sg tu G1 st1 sl1 L1 → bl_ok (pz_fact n) G1 S1 fa1 wy1 re1 → bl_ok (pz_fact n) G1 T1 fk1 wk1 rk1 → pz_ball (bl_s n k 0 sg tu od me) sa ly1 dp1 cb1 S1 → pz_ball (bl_s n k 6 sg tu od me) gl lk1 dk1 cc1 T1 → dp1 ≤ ly1 → dk1 ≤ lk1 → (∀ x, ¬ (S1.2.1 x ≠ none ∧ T1.2.1 x ≠ none)) → t ≤ dp1 + dk1 → 2 * pz_fact n + 1 ≤ t + d → ∀ (H : Heap) (locs : List Loc) (ls : Array Slot), va_P D vwCl ([se_W q as9 n (am 0) (ag 0) r1 r2 (ak 0) (pz_fact n) rw bg sx ro ln wz, bl_W q ah (am 0) (ag 0) 0 (pz_fact n) fa1 wy1 re1 S1.1.length ly1 dp1 me (bl_b cb1), bl_W q ak (am 0) (ag 0) 6 (pz_fact n) fk1 wk1 rk1 T1.1.length lk1 dk1 me (bl_b cc1), gq_W q ag (am 0) (pz_fact n) (2 ^ b) (32 - b) rl st1 sl1 G1.length, wz_rows 12 rl (fun i9 => .inl (q.1, pz_fact n, .inl (L1 i9))), mv_W q am n k rt fo, wz_rows 12 rt (fun i9 => .inl (q.1, 8, .inl (M i9)))] : wz_G).flatten H → va_D A ([se_W q as9 n (am 0) (ag 0) r1 r2 (ak 0) (pz_fact n) rw bg sx ro ln wz, bl_W q ah (am 0) (ag 0) 0 (pz_fact n) fa1 wy1 re1 S1.1.length ly1 dp1 me (bl_b cb1), bl_W q ak (am 0) (ag 0) 6 (pz_fact n) fk1 wk1 rk1 T1.1.length lk1 dk1 me (bl_b cc1), gq_W q ag (am 0) (pz_fact n) (2 ^ b) (32 - b) rl st1 sl1 G1.length, wz_rows 12 rl (fun i9 => .inl (q.1, pz_fact n, .inl (L1 i9))), mv_W q am n k rt fo, wz_rows 12 rt (fun i9 => .inl (q.1, 8, .inl (M i9)))] : wz_G).flatten → va_S A s.heap H locs → lv_has ls 6 [(0, .ref (as9 0)), (1, .ref (ah 0)), (2, .int (nI ms9)), (3, .int (nI t))] → W p l e ({ frames := 5, cells := 0, slots := 0, locals := 120 } : Room) s m ([.ref (as9 0), .ref (ah 0), .int (nI ms9)] : List Value).toArray below meth c H locs 0 0 (MQ below (va_Qi (po_S_meet q as9 ah ak ag am n b k rl rt fo M sg tu od a0 r1 r2 rw bg sx ro ln wz G st sl L S fa wy re ly dp me (bl_b cb) T fk wk rk 0 0 (bl_b false) sa gl ms9 cb cc) (wz_At D q A) A) ([.ref (as9 0), .ref (ah 0), .int (nI ms9)] : List Value).toArray s 0 0 A) (F0 m 39 ls []) := by
      intro d
      induction d with
      | zero =>
        intro t G1 st1 sl1 L1 S1 fa1 wy1 re1 ly1 dp1 cb1 T1 fk1 wk1 rk1 lk1 dk1 cc1 hp1 hok1 hS1 hT1 hbS1 hbT1 hdS1 hdT1 hno1 h9 hd
        exfalso; have := hbS1.2.1; have := hbT1.2.1; have := bl_len hS1; have := bl_len hT1; have := gq_len hok1; omega
      | succ d ih =>
        intro t G1 st1 sl1 L1 S1 fa1 wy1 re1 ly1 dp1 cb1 T1 fk1 wk1 rk1 lk1 dk1 cc1 hp1 hok1 hS1 hT1 hbS1 hbT1 hdS1 hdT1 hno1 h9 hd H locs ls hP hD hS hl
        have hG1l := gq_len hok1
        have hS1l := bl_len hS1
        have hT1l := bl_len hT1
        have hlyS1 := hbS1.2.1
        have hlyT1 := hbT1.2.1
        refine lv_iload_n hx hb d_S_meet_39 rfl (lv_at hl 3 rfl) ?_
        refine lv_iconst (v := nI 2) hx hb d_S_meet_40 (by decide) ?_
        refine lv_aload_n hx hb d_S_meet_41 rfl (lv_at hl 0 rfl) ?_
        refine wz_get (v := .ref (as9 1)) (T := T_S) (N := 12) hx hb hts i_S hown hK hP 0 0 rfl rfl rfl 6 (by decide) (hts _ kw_267) rfl rfl d_S_meet_42 ?_
        refine wz_alen hx hb hK hP 0 1 (n := pz_fact n) rfl rfl d_S_meet_45 ?_
        refine lv_imul hx hb d_S_meet_46 ?_
        refine wz_topi (y := nI (2 * (pz_fact n))) (pk_mul 2 (pz_fact n)) ?_
        refine wz_ge (tgt := 161) hx hb d_S_meet_47 (by decide) (by omega) (by omega) (fun hc2 => ?_) (fun hc2 => ?_)
        · skip
          exfalso; omega
        · skip
          refine lv_aload_n hx hb d_S_meet_50 rfl (lv_at hl 1 rfl) ?_
          refine wz_getN (v := .int (nI dp1)) (T := T_B) (N := 11) hx hb hts i_B hown hK hP 1 0 rfl rfl rfl 8 (by decide) (hN _ (List.mem_of_getElem? (i := 11) rfl)) rfl rfl d_S_meet_51 ?_
          refine lv_aload_n hx hb d_S_meet_54 rfl (lv_at hl 0 rfl) ?_
          refine wz_get (v := .ref (ak 0)) (T := T_S) (N := 12) hx hb hts i_S hown hK hP 0 0 rfl rfl rfl 5 (by decide) (hts _ kw_266) rfl rfl d_S_meet_55 ?_
          refine wz_getN (v := .int (nI dk1)) (T := T_B) (N := 11) hx hb hts i_B hown hK hP 2 0 rfl rfl rfl 8 (by decide) (hN _ (List.mem_of_getElem? (i := 11) rfl)) rfl rfl d_S_meet_58 ?_
          refine lv_iadd hx hb d_S_meet_61 ?_
          refine wz_topi (y := nI (dp1 + dk1)) (nI_add dp1 dk1) ?_
          refine lv_iload_n hx hb d_S_meet_62 rfl (lv_at hl 2 rfl) ?_
          refine wz_ge (tgt := 73) hx hb d_S_meet_63 (by decide) (by omega) (by omega) (fun hc3 => ?_) (fun hc3 => ?_)
          · skip
            refine lv_iconst (v := (-1)) hx hb d_S_meet_73 (by decide) ?_
            exact wz_iret hx hb hr hlocks hK hP hD hS d_S_meet_74 ⟨G1, st1, sl1, L1, S1, fa1, wy1, re1, ly1, dp1, cb1, T1, fk1, wk1, rk1, lk1, dk1, cc1, rfl, hp1, hok1, hS1, hT1, hbS1, hbT1, hdS1, hdT1, (Or.inl ⟨rfl, fun K9 hK9 => Nat.lt_of_le_of_lt hc3 (pz_apart hrv hbS1 hbT1 hno1 hK9)⟩)⟩
          · skip
            refine lv_aload_n hx hb d_S_meet_66 rfl (lv_at hl 1 rfl) ?_
            refine wz_getN (v := .int (bl_b cb1)) (T := T_B) (N := 11) hx hb hts i_B hown hK hP 1 0 rfl rfl rfl 10 (by decide) (hN _ (List.mem_of_getElem? (i := 14) rfl)) rfl rfl d_S_meet_67 ?_
            refine lv_if_eq (tgt := 75) hx hb d_S_meet_70 (by decide) (fun hc4 => ?_) (fun hc4 => ?_)
            · skip
              have hcb1 : cb1 = false := by cases cb1 with | true => exact absurd hc4 (by decide) | false => rfl
              subst hcb1
              refine lv_aload_n hx hb d_S_meet_75 rfl (lv_at hl 1 rfl) ?_
              have hQ := wz_split (n := 7) (gc := [bl_W q ah (am 0) (ag 0) 0 (pz_fact n) fa1 wy1 re1 S1.1.length ly1 dp1 me (bl_b false)]) (gr := [se_W q as9 n (am 0) (ag 0) r1 r2 (ak 0) (pz_fact n) rw bg sx ro ln wz, bl_W q ak (am 0) (ag 0) 6 (pz_fact n) fk1 wk1 rk1 T1.1.length lk1 dk1 me (bl_b cc1), gq_W q ag (am 0) (pz_fact n) (2 ^ b) (32 - b) rl st1 sl1 G1.length, wz_rows 12 rl (fun i9 => .inl (q.1, pz_fact n, .inl (L1 i9))), mv_W q am n k rt fo, wz_rows 12 rt (fun i9 => .inl (q.1, 8, .inl (M i9)))]) [1] [0, 2, 3, 4, 5, 6] rfl (by decide) rfl rfl hP hD
              refine wz_calli (va_runV (As := []) (rest := []) ⟨hx, hb, hml, hown, hts⟩ (c_B_sizeOfLastLayer l D q ah (am 0) (ag 0) 0 (pz_fact n) fa1 wy1 re1 S1.1.length ly1 dp1 me (bl_b false) (by omega) _) (cwV 0 hts (wz_goodV kw_347 kw_348 kw_349 kw_36 kw_350) rfl rfl rfl (by decide +kernel) ⟨Nat.le_of_ble_eq_true rfl, Nat.le_of_ble_eq_true rfl⟩) (wz_preV (gi := 0) (k := 0) hN hK hQ wz_L_ok rfl rfl rfl) rfl rfl hl.1 rfl (lv_room (Nat.le_of_ble_eq_true rfl)) d_S_meet_76 ⟨Nat.le_of_ble_eq_true rfl, Nat.le_of_ble_eq_true rfl⟩) hQ hS hA (fun v_76 gx H locs hp hP hD hS => ?_)
              obtain ⟨rfl, rfl⟩ := hp
              obtain ⟨hP, hD⟩ := wz_ord (n := 7) (gs' := [se_W q as9 n (am 0) (ag 0) r1 r2 (ak 0) (pz_fact n) rw bg sx ro ln wz, bl_W q ah (am 0) (ag 0) 0 (pz_fact n) fa1 wy1 re1 S1.1.length ly1 dp1 me (bl_b false), bl_W q ak (am 0) (ag 0) 6 (pz_fact n) fk1 wk1 rk1 T1.1.length lk1 dk1 me (bl_b cc1), gq_W q ag (am 0) (pz_fact n) (2 ^ b) (32 - b) rl st1 sl1 G1.length, wz_rows 12 rl (fun i9 => .inl (q.1, pz_fact n, .inl (L1 i9))), mv_W q am n k rt fo, wz_rows 12 rt (fun i9 => .inl (q.1, 8, .inl (M i9)))]) [1, 0, 2, 3, 4, 5, 6] rfl (by decide) rfl hP hD
              refine lv_aload_n hx hb d_S_meet_79 rfl (lv_at hl 0 rfl) ?_
              refine wz_get (v := .ref (ak 0)) (T := T_S) (N := 12) hx hb hts i_S hown hK hP 0 0 rfl rfl rfl 5 (by decide) (hts _ kw_266) rfl rfl d_S_meet_80 ?_
              have hQ := wz_split (n := 7) (gc := [bl_W q ak (am 0) (ag 0) 6 (pz_fact n) fk1 wk1 rk1 T1.1.length lk1 dk1 me (bl_b cc1)]) (gr := [se_W q as9 n (am 0) (ag 0) r1 r2 (ak 0) (pz_fact n) rw bg sx ro ln wz, bl_W q ah (am 0) (ag 0) 0 (pz_fact n) fa1 wy1 re1 S1.1.length ly1 dp1 me (bl_b false), gq_W q ag (am 0) (pz_fact n) (2 ^ b) (32 - b) rl st1 sl1 G1.length, wz_rows 12 rl (fun i9 => .inl (q.1, pz_fact n, .inl (L1 i9))), mv_W q am n k rt fo, wz_rows 12 rt (fun i9 => .inl (q.1, 8, .inl (M i9)))]) [2] [0, 1, 3, 4, 5, 6] rfl (by decide) rfl rfl hP hD
              refine wz_calli (va_runV (As := []) (rest := [.int (nI (S1.1.length - ly1))]) ⟨hx, hb, hml, hown, hts⟩ (c_B_sizeOfLastLayer l D q ak (am 0) (ag 0) 6 (pz_fact n) fk1 wk1 rk1 T1.1.length lk1 dk1 me (bl_b cc1) (by omega) _) (cwV 0 hts (wz_goodV kw_347 kw_348 kw_349 kw_36 kw_350) rfl rfl rfl (by decide +kernel) ⟨Nat.le_of_ble_eq_true rfl, Nat.le_of_ble_eq_true rfl⟩) (wz_preV (gi := 0) (k := 0) hN hK hQ wz_L_ok rfl rfl rfl) rfl rfl hl.1 rfl (lv_room (Nat.le_of_ble_eq_true rfl)) d_S_meet_83 ⟨Nat.le_of_ble_eq_true rfl, Nat.le_of_ble_eq_true rfl⟩) hQ hS hA (fun v_83 gx H locs hp hP hD hS => ?_)
              obtain ⟨rfl, rfl⟩ := hp
              obtain ⟨hP, hD⟩ := wz_ord (n := 7) (gs' := [se_W q as9 n (am 0) (ag 0) r1 r2 (ak 0) (pz_fact n) rw bg sx ro ln wz, bl_W q ah (am 0) (ag 0) 0 (pz_fact n) fa1 wy1 re1 S1.1.length ly1 dp1 me (bl_b false), bl_W q ak (am 0) (ag 0) 6 (pz_fact n) fk1 wk1 rk1 T1.1.length lk1 dk1 me (bl_b cc1), gq_W q ag (am 0) (pz_fact n) (2 ^ b) (32 - b) rl st1 sl1 G1.length, wz_rows 12 rl (fun i9 => .inl (q.1, pz_fact n, .inl (L1 i9))), mv_W q am n k rt fo, wz_rows 12 rt (fun i9 => .inl (q.1, 8, .inl (M i9)))]) [1, 2, 0, 3, 4, 5, 6] rfl (by decide) rfl hP hD
              refine wz_gt (tgt := 93) hx hb d_S_meet_86 (by decide) (by omega) (by omega) (fun hc5 => ?_) (fun hc5 => ?_)
              · skip
                refine lv_iconst (v := nI 0) hx hb d_S_meet_93 (by decide) ?_
                refine lv_istore (lv' := [(4, .int (nI 0)), (0, .ref (as9 0)), (1, .ref (ah 0)), (2, .int (nI ms9)), (3, .int (nI t))]) hx hb d_S_meet_94 hl (by decide) rfl (fun ls hl => ?_)
                refine lv_iload hx hb d_S_meet_96 (lv_at hl 0 rfl) ?_
                refine lv_if_eq (tgt := 105) hx hb d_S_meet_98 (by decide) (fun hc6 => ?_) (fun hc6 => ?_)
                · skip
                  refine lv_aload_n hx hb d_S_meet_105 rfl (lv_at hl 1 rfl) ?_
                  refine wz_get (v := .ref (ak 0)) (T := T_S) (N := 12) hx hb hts i_S hown hK hP 0 0 rfl rfl rfl 5 (by decide) (hts _ kw_266) rfl rfl d_S_meet_106 ?_
                  refine lv_astore (lv' := [(5, .ref (ak 0)), (4, .int (nI 0)), (0, .ref (as9 0)), (1, .ref (ah 0)), (2, .int (nI ms9)), (3, .int (nI t))]) hx hb d_S_meet_109 hl (by decide) rfl (fun ls hl => ?_)
                  refine lv_aload hx hb d_S_meet_111 (lv_at hl 0 rfl) ?_
                  have hQ := wz_split (n := 7) (gc := [bl_W q ak (am 0) (ag 0) 6 (pz_fact n) fk1 wk1 rk1 T1.1.length lk1 dk1 me (bl_b cc1), gq_W q ag (am 0) (pz_fact n) (2 ^ b) (32 - b) rl st1 sl1 G1.length, wz_rows 12 rl (fun i9 => .inl (q.1, pz_fact n, .inl (L1 i9))), mv_W q am n k rt fo, wz_rows 12 rt (fun i9 => .inl (q.1, 8, .inl (M i9)))]) (gr := [se_W q as9 n (am 0) (ag 0) r1 r2 (ak 0) (pz_fact n) rw bg sx ro ln wz, bl_W q ah (am 0) (ag 0) 0 (pz_fact n) fa1 wy1 re1 S1.1.length ly1 dp1 me (bl_b false)]) [2, 3, 4, 5, 6] [0, 1] rfl (by decide) rfl rfl hP hD
                  refine wz_calli (va_runV (As := []) (rest := []) ⟨hx, hb, hml, hown, hts⟩ (c_B_grow l D q ak ag am n b k 6 rl rt fo M sg tu od a0 G1 st1 sl1 L1 T1 fk1 wk1 rk1 lk1 dk1 me (bl_b cc1) gl cc1 hn hb0 hb30 hM hk (Or.inr rfl) hmv hok1 hT1 hbT1 rfl hdT1 _) (cwV 0 hts (wz_goodV kw_351 kw_352 kw_353 kw_36 kw_354) rfl rfl rfl (by decide +kernel) ⟨Nat.le_of_ble_eq_true rfl, Nat.le_of_ble_eq_true rfl⟩) (wz_preV (gi := 0) (k := 0) hN hK hQ wz_L_ok rfl rfl rfl) rfl rfl hl.1 rfl (lv_room (Nat.le_of_ble_eq_true rfl)) d_S_meet_113 ⟨Nat.le_of_ble_eq_true rfl, Nat.le_of_ble_eq_true rfl⟩) hQ hS hA (fun v_113 gx H locs hp hP hD hS => ?_)
                  obtain ⟨G2, st2, sl2, L2, T2, fk2, wk2, rk2, lk2, dk2, cc2, rfl, hbT2, hdT2, hres, ⟨Nb, hNb⟩, hok2, hT2⟩ := hp
                  obtain ⟨Na, hNa⟩ := hp1
                  have hG2l := gq_len hok2
                  have hS2 := bl_more hS1 ⟨Nb, hNb⟩ hok2.1 hG2l
                  obtain ⟨hP, hD⟩ := wz_ord (n := 7) (gs' := [se_W q as9 n (am 0) (ag 0) r1 r2 (ak 0) (pz_fact n) rw bg sx ro ln wz, bl_W q ah (am 0) (ag 0) 0 (pz_fact n) fa1 wy1 re1 S1.1.length ly1 dp1 me (bl_b false), bl_W q ak (am 0) (ag 0) 6 (pz_fact n) fk2 wk2 rk2 T2.1.length lk2 dk2 me (bl_b cc2), gq_W q ag (am 0) (pz_fact n) (2 ^ b) (32 - b) rl st2 sl2 G2.length, wz_rows 12 rl (fun i9 => .inl (q.1, pz_fact n, .inl (L2 i9))), mv_W q am n k rt fo, wz_rows 12 rt (fun i9 => .inl (q.1, 8, .inl (M i9)))]) [5, 6, 0, 1, 2, 3, 4] rfl (by decide) rfl hP hD
                  refine lv_if_ne (tgt := 121) hx hb d_S_meet_116 (by decide) (fun hc7 => ?_) (fun hc7 => ?_)
                  · skip
                    have hres2 := hres.resolve_left (fun q => hc7 (by rw [q.2.1]; rfl))
                    obtain ⟨hcb2, hcc1, -, hdp2⟩ := hres2
                    have hT2l := bl_len hT2
                    have hlyT2 := hbT2.2.1
                    have hltS1 : ∀ x e, S1.2.1 x = some e → e < 2 ^ 30 := pz_ball_lt hbS1 (by omega)
                    refine lv_aload hx hb d_S_meet_121 (lv_at hl 0 rfl) ?_
                    refine lv_iload hx hb d_S_meet_123 (lv_at hl 1 rfl) ?_
                    refine lv_if_eq (tgt := 135) hx hb d_S_meet_125 (by decide) (fun hc8 => ?_) (fun hc8 => ?_)
                    · skip
                      refine lv_aload_n hx hb d_S_meet_135 rfl (lv_at hl 3 rfl) ?_
                      have hQ := wz_split (n := 7) (gc := [bl_W q ak (am 0) (ag 0) 6 (pz_fact n) fk2 wk2 rk2 T2.1.length lk2 dk2 me (bl_b cc2), bl_W q ah (am 0) (ag 0) 0 (pz_fact n) fa1 wy1 re1 S1.1.length ly1 dp1 me (bl_b false)]) (gr := [se_W q as9 n (am 0) (ag 0) r1 r2 (ak 0) (pz_fact n) rw bg sx ro ln wz, gq_W q ag (am 0) (pz_fact n) (2 ^ b) (32 - b) rl st2 sl2 G2.length, wz_rows 12 rl (fun i9 => .inl (q.1, pz_fact n, .inl (L2 i9))), mv_W q am n k rt fo, wz_rows 12 rt (fun i9 => .inl (q.1, 8, .inl (M i9)))]) [2, 1] [0, 3, 4, 5, 6] rfl (by decide) rfl rfl hP hD
                      refine wz_calli (va_runV (As := [.ref (ah 0)]) (rest := []) ⟨hx, hb, hml, hown, hts⟩ (c_B_lastLayerMeets l D q ak ah (am 0) (ag 0) 6 (pz_fact n) fk2 wk2 rk2 lk2 dk2 me (bl_b cc2) 0 fa1 wy1 re1 S1.1.length ly1 dp1 me (bl_b false) G2 T2 S1 (by omega) hG2l (by omega) hT2 hS2 hltS1 _) (cwV 1 hts (wz_goodV kw_343 kw_344 kw_345 kw_36 kw_346) rfl rfl rfl (by decide +kernel) ⟨Nat.le_of_ble_eq_true rfl, Nat.le_of_ble_eq_true rfl⟩) (wz_preV (gi := 0) (k := 0) hN hK hQ wz_L_ok rfl rfl rfl) rfl rfl hl.1 rfl (lv_room (Nat.le_of_ble_eq_true rfl)) d_S_meet_136 ⟨Nat.le_of_ble_eq_true rfl, Nat.le_of_ble_eq_true rfl⟩) hQ hS hA (fun v_136 gx H locs hp8 hP hD hS => ?_)
                      obtain ⟨rfl, hp8⟩ := hp8
                      obtain ⟨hP, hD⟩ := wz_ord (n := 7) (gs' := [se_W q as9 n (am 0) (ag 0) r1 r2 (ak 0) (pz_fact n) rw bg sx ro ln wz, bl_W q ah (am 0) (ag 0) 0 (pz_fact n) fa1 wy1 re1 S1.1.length ly1 dp1 me (bl_b false), bl_W q ak (am 0) (ag 0) 6 (pz_fact n) fk2 wk2 rk2 T2.1.length lk2 dk2 me (bl_b cc2), gq_W q ag (am 0) (pz_fact n) (2 ^ b) (32 - b) rl st2 sl2 G2.length, wz_rows 12 rl (fun i9 => .inl (q.1, pz_fact n, .inl (L2 i9))), mv_W q am n k rt fo, wz_rows 12 rt (fun i9 => .inl (q.1, 8, .inl (M i9)))]) [2, 1, 0, 3, 4, 5, 6] rfl (by decide) rfl hP hD
                      refine lv_if_eq (tgt := 155) hx hb d_S_meet_139 (by decide) (fun hc9 => ?_) (fun hc9 => ?_)
                      · skip
                        have hno2 : ∀ x, ¬ (S1.2.1 x ≠ none ∧ T2.2.1 x ≠ none) := by
                          rintro x ⟨q1, q2⟩
                          obtain ⟨e, he⟩ := pz_mem_far hbT2.1.1 ((hbT2.1.1.2 x).mpr q2)
                          have hle := pz_ball_le hbT2 he
                          by_cases z : e ≤ dk1
                          · exact hno1 x ⟨q1, pz_sn (pz_ball_near hbT1 (Or.inl z) (pz_ball_exact hbT2 he))⟩
                          · obtain ⟨i, hi1, hi2⟩ := (pz_ball_last hbT2).mp (show T2.2.1 x = some dk2 by rw [he]; congr 1; omega)
                            exact wz_bit_0 hp8 hc9 ⟨i, x, hi1, hi2, q1⟩
                        refine lv_iinc (v := nI (t + 1)) (lv' := [(3, .int (nI (t + 1))), (5, .ref (ak 0)), (4, .int (nI 0)), (0, .ref (as9 0)), (1, .ref (ah 0)), (2, .int (nI ms9))]) hx hb d_S_meet_155 hl (k := 5) rfl (nI_1 t) (by decide) rfl (fun ls hl => ?_)
                        refine lv_goto (tgt := 39) hx hb d_S_meet_158 (by decide) ?_
                        exact ih (t + 1) G2 st2 sl2 L2 S1 fa1 wy1 re1 ly1 dp1 false T2 fk2 wk2 rk2 lk2 dk2 cc2 ⟨Na ++ Nb, by rw [hNb, hNa, List.append_assoc]⟩ hok2 hS2 hT2 hbS1 hbT2 hdS1 hdT2 hno2 (by omega) (by omega) _ _ _ hP hD hS (lv_sub hl [3, 4, 5, 0] rfl)
                      · skip
                        obtain ⟨i, x, hi1, hi2, hx3⟩ := wz_bit_1 hp8 hc9
                        have hdist := pz_meet hrv hbS1 hbT2 hx3 (pz_sn ((pz_ball_last hbT2).mpr ⟨i, hi1, hi2⟩)) (fun K9 hK9 => by have := pz_apart hrv hbS1 hbT1 hno1 hK9; omega)
                        refine lv_aload_n hx hb d_S_meet_142 rfl (lv_at hl 3 rfl) ?_
                        refine wz_getN (v := .int (nI dp1)) (T := T_B) (N := 11) hx hb hts i_B hown hK hP 1 0 rfl rfl rfl 8 (by decide) (hN _ (List.mem_of_getElem? (i := 11) rfl)) rfl rfl d_S_meet_143 ?_
                        refine lv_aload_n hx hb d_S_meet_146 rfl (lv_at hl 2 rfl) ?_
                        refine wz_get (v := .ref (ak 0)) (T := T_S) (N := 12) hx hb hts i_S hown hK hP 0 0 rfl rfl rfl 5 (by decide) (hts _ kw_266) rfl rfl d_S_meet_147 ?_
                        refine wz_getN (v := .int (nI dk2)) (T := T_B) (N := 11) hx hb hts i_B hown hK hP 2 0 rfl rfl rfl 8 (by decide) (hN _ (List.mem_of_getElem? (i := 11) rfl)) rfl rfl d_S_meet_150 ?_
                        refine lv_iadd hx hb d_S_meet_153 ?_
                        refine wz_topi (y := nI (dp1 + dk2)) (nI_add dp1 dk2) ?_
                        exact wz_iret hx hb hr hlocks hK hP hD hS d_S_meet_154 ⟨G2, st2, sl2, L2, S1, fa1, wy1, re1, ly1, dp1, false, T2, fk2, wk2, rk2, lk2, dk2, cc2, rfl, ⟨Na ++ Nb, by rw [hNb, hNa, List.append_assoc]⟩, hok2, hS2, hT2, hbS1, hbT2, hdS1, hdT2, (Or.inr ⟨dp1 + dk2, dp1, rfl, hdist, by omega, rfl, Nat.le_refl _⟩)⟩
                    · skip
                      exact absurd hc8 (by decide)
                  · skip
                    have hres2 := hres.resolve_right (fun q => absurd hc7 (by rw [q.2.2.1]; decide))
                    obtain ⟨rfl, -, hdp2⟩ := hres2
                    have hno2 : ∀ x, ¬ (S1.2.1 x ≠ none ∧ T2.2.1 x ≠ none) := by
                      rintro x ⟨q1, q2⟩
                      obtain ⟨e, he⟩ := pz_mem_far hbT2.1.1 ((hbT2.1.1.2 x).mpr q2)
                      have hle := pz_ball_le hbT2 he
                      exact hno1 x ⟨q1, pz_sn (pz_ball_near hbT1 (Or.inl (by omega)) (pz_ball_exact hbT2 he))⟩
                    refine lv_iconst (v := (-1)) hx hb d_S_meet_119 (by decide) ?_
                    exact wz_iret hx hb hr hlocks hK hP hD hS d_S_meet_120 ⟨G2, st2, sl2, L2, S1, fa1, wy1, re1, ly1, dp1, false, T2, fk2, wk2, rk2, lk2, dk2, true, rfl, ⟨Na ++ Nb, by rw [hNb, hNa, List.append_assoc]⟩, hok2, hS2, hT2, hbS1, hbT2, hdS1, hdT2, (Or.inl ⟨rfl, fun K9 hK9 => absurd hK9 (pz_no_row hrv hbS1 hbT2 hno2 (Or.inr rfl) K9)⟩)⟩
                · skip
                  exact absurd hc6 (by decide)
              · skip
                refine lv_iconst (v := nI 1) hx hb d_S_meet_89 (by decide) ?_
                refine lv_goto (tgt := 94) hx hb d_S_meet_90 (by decide) ?_
                refine lv_istore (lv' := [(4, .int (nI 1)), (0, .ref (as9 0)), (1, .ref (ah 0)), (2, .int (nI ms9)), (3, .int (nI t))]) hx hb d_S_meet_94 hl (by decide) rfl (fun ls hl => ?_)
                refine lv_iload hx hb d_S_meet_96 (lv_at hl 0 rfl) ?_
                refine lv_if_eq (tgt := 105) hx hb d_S_meet_98 (by decide) (fun hc6 => ?_) (fun hc6 => ?_)
                · skip
                  exact absurd hc6 (by decide)
                · skip
                  refine lv_aload_n hx hb d_S_meet_101 rfl (lv_at hl 2 rfl) ?_
                  refine lv_goto (tgt := 109) hx hb d_S_meet_102 (by decide) ?_
                  refine lv_astore (lv' := [(5, .ref (ah 0)), (4, .int (nI 1)), (0, .ref (as9 0)), (1, .ref (ah 0)), (2, .int (nI ms9)), (3, .int (nI t))]) hx hb d_S_meet_109 hl (by decide) rfl (fun ls hl => ?_)
                  refine lv_aload hx hb d_S_meet_111 (lv_at hl 0 rfl) ?_
                  have hQ := wz_split (n := 7) (gc := [bl_W q ah (am 0) (ag 0) 0 (pz_fact n) fa1 wy1 re1 S1.1.length ly1 dp1 me (bl_b false), gq_W q ag (am 0) (pz_fact n) (2 ^ b) (32 - b) rl st1 sl1 G1.length, wz_rows 12 rl (fun i9 => .inl (q.1, pz_fact n, .inl (L1 i9))), mv_W q am n k rt fo, wz_rows 12 rt (fun i9 => .inl (q.1, 8, .inl (M i9)))]) (gr := [se_W q as9 n (am 0) (ag 0) r1 r2 (ak 0) (pz_fact n) rw bg sx ro ln wz, bl_W q ak (am 0) (ag 0) 6 (pz_fact n) fk1 wk1 rk1 T1.1.length lk1 dk1 me (bl_b cc1)]) [1, 3, 4, 5, 6] [0, 2] rfl (by decide) rfl rfl hP hD
                  refine wz_calli (va_runV (As := []) (rest := []) ⟨hx, hb, hml, hown, hts⟩ (c_B_grow l D q ah ag am n b k 0 rl rt fo M sg tu od a0 G1 st1 sl1 L1 S1 fa1 wy1 re1 ly1 dp1 me (bl_b false) sa false hn hb0 hb30 hM hk (Or.inl rfl) hmv hok1 hS1 hbS1 rfl hdS1 _) (cwV 0 hts (wz_goodV kw_351 kw_352 kw_353 kw_36 kw_354) rfl rfl rfl (by decide +kernel) ⟨Nat.le_of_ble_eq_true rfl, Nat.le_of_ble_eq_true rfl⟩) (wz_preV (gi := 0) (k := 0) hN hK hQ wz_L_ok rfl rfl rfl) rfl rfl hl.1 rfl (lv_room (Nat.le_of_ble_eq_true rfl)) d_S_meet_113 ⟨Nat.le_of_ble_eq_true rfl, Nat.le_of_ble_eq_true rfl⟩) hQ hS hA (fun v_113 gx H locs hp hP hD hS => ?_)
                  obtain ⟨G2, st2, sl2, L2, S2, fa2, wy2, re2, ly2, dp2, cb2, rfl, hbS2, hdS2, hres, ⟨Nb, hNb⟩, hok2, hS2⟩ := hp
                  obtain ⟨Na, hNa⟩ := hp1
                  have hG2l := gq_len hok2
                  have hT2 := bl_more hT1 ⟨Nb, hNb⟩ hok2.1 hG2l
                  obtain ⟨hP, hD⟩ := wz_ord (n := 7) (gs' := [se_W q as9 n (am 0) (ag 0) r1 r2 (ak 0) (pz_fact n) rw bg sx ro ln wz, bl_W q ah (am 0) (ag 0) 0 (pz_fact n) fa2 wy2 re2 S2.1.length ly2 dp2 me (bl_b cb2), bl_W q ak (am 0) (ag 0) 6 (pz_fact n) fk1 wk1 rk1 T1.1.length lk1 dk1 me (bl_b cc1), gq_W q ag (am 0) (pz_fact n) (2 ^ b) (32 - b) rl st2 sl2 G2.length, wz_rows 12 rl (fun i9 => .inl (q.1, pz_fact n, .inl (L2 i9))), mv_W q am n k rt fo, wz_rows 12 rt (fun i9 => .inl (q.1, 8, .inl (M i9)))]) [5, 0, 6, 1, 2, 3, 4] rfl (by decide) rfl hP hD
                  refine lv_if_ne (tgt := 121) hx hb d_S_meet_116 (by decide) (fun hc7 => ?_) (fun hc7 => ?_)
                  · skip
                    have hres2 := hres.resolve_left (fun q => hc7 (by rw [q.2.1]; rfl))
                    obtain ⟨hcb2, -, -, hdp2⟩ := hres2
                    have hS2l := bl_len hS2
                    have hlyS2 := hbS2.2.1
                    have hltT : ∀ x e, T1.2.1 x = some e → e < 2 ^ 30 := pz_ball_lt hbT1 (by omega)
                    refine lv_aload hx hb d_S_meet_121 (lv_at hl 0 rfl) ?_
                    refine lv_iload hx hb d_S_meet_123 (lv_at hl 1 rfl) ?_
                    refine lv_if_eq (tgt := 135) hx hb d_S_meet_125 (by decide) (fun hc8 => ?_) (fun hc8 => ?_)
                    · skip
                      exact absurd hc8 (by decide)
                    · skip
                      refine lv_aload_n hx hb d_S_meet_128 rfl (lv_at hl 2 rfl) ?_
                      refine wz_get (v := .ref (ak 0)) (T := T_S) (N := 12) hx hb hts i_S hown hK hP 0 0 rfl rfl rfl 5 (by decide) (hts _ kw_266) rfl rfl d_S_meet_129 ?_
                      refine lv_goto (tgt := 136) hx hb d_S_meet_132 (by decide) ?_
                      have hQ := wz_split (n := 7) (gc := [bl_W q ah (am 0) (ag 0) 0 (pz_fact n) fa2 wy2 re2 S2.1.length ly2 dp2 me (bl_b cb2), bl_W q ak (am 0) (ag 0) 6 (pz_fact n) fk1 wk1 rk1 T1.1.length lk1 dk1 me (bl_b cc1)]) (gr := [se_W q as9 n (am 0) (ag 0) r1 r2 (ak 0) (pz_fact n) rw bg sx ro ln wz, gq_W q ag (am 0) (pz_fact n) (2 ^ b) (32 - b) rl st2 sl2 G2.length, wz_rows 12 rl (fun i9 => .inl (q.1, pz_fact n, .inl (L2 i9))), mv_W q am n k rt fo, wz_rows 12 rt (fun i9 => .inl (q.1, 8, .inl (M i9)))]) [1, 2] [0, 3, 4, 5, 6] rfl (by decide) rfl rfl hP hD
                      refine wz_calli (va_runV (As := [.ref (ak 0)]) (rest := []) ⟨hx, hb, hml, hown, hts⟩ (c_B_lastLayerMeets l D q ah ak (am 0) (ag 0) 0 (pz_fact n) fa2 wy2 re2 ly2 dp2 me (bl_b cb2) 6 fk1 wk1 rk1 T1.1.length lk1 dk1 me (bl_b cc1) G2 S2 T1 (by omega) hG2l (by omega) hS2 hT2 hltT _) (cwV 1 hts (wz_goodV kw_343 kw_344 kw_345 kw_36 kw_346) rfl rfl rfl (by decide +kernel) ⟨Nat.le_of_ble_eq_true rfl, Nat.le_of_ble_eq_true rfl⟩) (wz_preV (gi := 0) (k := 0) hN hK hQ wz_L_ok rfl rfl rfl) rfl rfl hl.1 rfl (lv_room (Nat.le_of_ble_eq_true rfl)) d_S_meet_136 ⟨Nat.le_of_ble_eq_true rfl, Nat.le_of_ble_eq_true rfl⟩) hQ hS hA (fun v_136 gx H locs hp8 hP hD hS => ?_)
                      obtain ⟨rfl, hp8⟩ := hp8
                      obtain ⟨hP, hD⟩ := wz_ord (n := 7) (gs' := [se_W q as9 n (am 0) (ag 0) r1 r2 (ak 0) (pz_fact n) rw bg sx ro ln wz, bl_W q ah (am 0) (ag 0) 0 (pz_fact n) fa2 wy2 re2 S2.1.length ly2 dp2 me (bl_b cb2), bl_W q ak (am 0) (ag 0) 6 (pz_fact n) fk1 wk1 rk1 T1.1.length lk1 dk1 me (bl_b cc1), gq_W q ag (am 0) (pz_fact n) (2 ^ b) (32 - b) rl st2 sl2 G2.length, wz_rows 12 rl (fun i9 => .inl (q.1, pz_fact n, .inl (L2 i9))), mv_W q am n k rt fo, wz_rows 12 rt (fun i9 => .inl (q.1, 8, .inl (M i9)))]) [2, 0, 1, 3, 4, 5, 6] rfl (by decide) rfl hP hD
                      refine lv_if_eq (tgt := 155) hx hb d_S_meet_139 (by decide) (fun hc9 => ?_) (fun hc9 => ?_)
                      · skip
                        have hno2 : ∀ x, ¬ (S2.2.1 x ≠ none ∧ T1.2.1 x ≠ none) := by
                          rintro x ⟨q1, q2⟩
                          obtain ⟨e, he⟩ := pz_mem_far hbS2.1.1 ((hbS2.1.1.2 x).mpr q1)
                          have hle := pz_ball_le hbS2 he
                          by_cases z : e ≤ dp1
                          · exact hno1 x ⟨pz_sn (pz_ball_near hbS1 (Or.inl z) (pz_ball_exact hbS2 he)), q2⟩
                          · obtain ⟨i, hi1, hi2⟩ := (pz_ball_last hbS2).mp (show S2.2.1 x = some dp2 by rw [he]; congr 1; omega)
                            exact wz_bit_0 hp8 hc9 ⟨i, x, hi1, hi2, q2⟩
                        refine lv_iinc (v := nI (t + 1)) (lv' := [(3, .int (nI (t + 1))), (5, .ref (ah 0)), (4, .int (nI 1)), (0, .ref (as9 0)), (1, .ref (ah 0)), (2, .int (nI ms9))]) hx hb d_S_meet_155 hl (k := 5) rfl (nI_1 t) (by decide) rfl (fun ls hl => ?_)
                        refine lv_goto (tgt := 39) hx hb d_S_meet_158 (by decide) ?_
                        exact ih (t + 1) G2 st2 sl2 L2 S2 fa2 wy2 re2 ly2 dp2 cb2 T1 fk1 wk1 rk1 lk1 dk1 cc1 ⟨Na ++ Nb, by rw [hNb, hNa, List.append_assoc]⟩ hok2 hS2 hT2 hbS2 hbT1 hdS2 hdT1 hno2 (by omega) (by omega) _ _ _ hP hD hS (lv_sub hl [3, 4, 5, 0] rfl)
                      · skip
                        obtain ⟨i, x, hi1, hi2, hx3⟩ := wz_bit_1 hp8 hc9
                        have hdist := pz_meet hrv hbS2 hbT1 (pz_sn ((pz_ball_last hbS2).mpr ⟨i, hi1, hi2⟩)) hx3 (fun K9 hK9 => by have := pz_apart hrv hbS1 hbT1 hno1 hK9; omega)
                        refine lv_aload_n hx hb d_S_meet_142 rfl (lv_at hl 3 rfl) ?_
                        refine wz_getN (v := .int (nI dp2)) (T := T_B) (N := 11) hx hb hts i_B hown hK hP 1 0 rfl rfl rfl 8 (by decide) (hN _ (List.mem_of_getElem? (i := 11) rfl)) rfl rfl d_S_meet_143 ?_
                        refine lv_aload_n hx hb d_S_meet_146 rfl (lv_at hl 2 rfl) ?_
                        refine wz_get (v := .ref (ak 0)) (T := T_S) (N := 12) hx hb hts i_S hown hK hP 0 0 rfl rfl rfl 5 (by decide) (hts _ kw_266) rfl rfl d_S_meet_147 ?_
                        refine wz_getN (v := .int (nI dk1)) (T := T_B) (N := 11) hx hb hts i_B hown hK hP 2 0 rfl rfl rfl 8 (by decide) (hN _ (List.mem_of_getElem? (i := 11) rfl)) rfl rfl d_S_meet_150 ?_
                        refine lv_iadd hx hb d_S_meet_153 ?_
                        refine wz_topi (y := nI (dp2 + dk1)) (nI_add dp2 dk1) ?_
                        exact wz_iret hx hb hr hlocks hK hP hD hS d_S_meet_154 ⟨G2, st2, sl2, L2, S2, fa2, wy2, re2, ly2, dp2, cb2, T1, fk1, wk1, rk1, lk1, dk1, cc1, rfl, ⟨Na ++ Nb, by rw [hNb, hNa, List.append_assoc]⟩, hok2, hS2, hT2, hbS2, hbT1, hdS2, hdT1, (Or.inr ⟨dp2 + dk1, dp2, rfl, hdist, by omega, rfl, Nat.le_refl _⟩)⟩
                  · skip
                    have hres2 := hres.resolve_right (fun q => absurd hc7 (by rw [q.2.2.1]; decide))
                    obtain ⟨rfl, -, hdp2⟩ := hres2
                    have hno2 : ∀ x, ¬ (S2.2.1 x ≠ none ∧ T1.2.1 x ≠ none) := by
                      rintro x ⟨q1, q2⟩
                      obtain ⟨e, he⟩ := pz_mem_far hbS2.1.1 ((hbS2.1.1.2 x).mpr q1)
                      have hle := pz_ball_le hbS2 he
                      exact hno1 x ⟨pz_sn (pz_ball_near hbS1 (Or.inl (by omega)) (pz_ball_exact hbS2 he)), q2⟩
                    refine lv_iconst (v := (-1)) hx hb d_S_meet_119 (by decide) ?_
                    exact wz_iret hx hb hr hlocks hK hP hD hS d_S_meet_120 ⟨G2, st2, sl2, L2, S2, fa2, wy2, re2, ly2, dp2, true, T1, fk1, wk1, rk1, lk1, dk1, cc1, rfl, ⟨Na ++ Nb, by rw [hNb, hNa, List.append_assoc]⟩, hok2, hS2, hT2, hbS2, hbT1, hdS2, hdT1, (Or.inl ⟨rfl, fun K9 hK9 => absurd hK9 (pz_no_row hrv hbS2 hbT1 hno2 (Or.inl rfl) K9)⟩)⟩
            · skip
              have hcb1 : cb1 = true := by cases cb1 with | true => rfl | false => exact absurd rfl hc4
              refine lv_iconst (v := (-1)) hx hb d_S_meet_73 (by decide) ?_
              exact wz_iret hx hb hr hlocks hK hP hD hS d_S_meet_74 ⟨G1, st1, sl1, L1, S1, fa1, wy1, re1, ly1, dp1, cb1, T1, fk1, wk1, rk1, lk1, dk1, cc1, rfl, hp1, hok1, hS1, hT1, hbS1, hbT1, hdS1, hdT1, (Or.inl ⟨rfl, fun K9 hK9 => absurd hK9 (pz_no_row hrv hbS1 hbT1 hno1 (Or.inl hcb1) K9)⟩)⟩
    exact loop (2 * pz_fact n + 1) 0 G st sl L S fa wy re ly dp cb T fk wk rk 0 0 false ⟨[], by simp⟩ hok hblS hblT hbS hbT hdS (Nat.le_refl 0) hno (by omega) (by omega) _ _ _ hP hD hS (lv_sub hl [1, 2, 3, 0] rfl)
  · skip
    have hin : S.2.1 gl ≠ none := by
      obtain ⟨i, x, -, h2, h3⟩ := wz_bit_1 hp0 hc
      rw [hT0] at h2
      have h4 : x ∈ [gl] := List.mem_of_getElem? h2
      rw [List.mem_singleton.mp h4] at h3; exact h3
    obtain ⟨e, he⟩ := pz_mem_far hbS.1.1 ((hbS.1.1.2 gl).mpr hin)
    have hel := hltS gl e he
    obtain ⟨jx, ejx, hjx⟩ := hblT.2.2.2 0 gl (by rw [hT0]; rfl)
    have hjl := (List.getElem?_eq_some_iff.mp hjx).1
    have hdist := pz_ball_exact hbS he
    refine lv_aload_n hx hb d_S_meet_11 rfl (lv_at hl 1 rfl) ?_
    refine wz_getN (v := .ref (ah 1)) (T := T_B) (N := 11) hx hb hts i_B hown hK hP 1 0 rfl rfl rfl 3 (by decide) (hN _ (List.mem_of_getElem? (i := 6) rfl)) rfl rfl d_S_meet_12 ?_
    refine lv_aload_n hx hb d_S_meet_15 rfl (lv_at hl 0 rfl) ?_
    refine wz_get (v := .ref (ak 0)) (T := T_S) (N := 12) hx hb hts i_S hown hK hP 0 0 rfl rfl rfl 5 (by decide) (hts _ kw_266) rfl rfl d_S_meet_16 ?_
    refine wz_getN (v := .ref (ak 3)) (T := T_B) (N := 11) hx hb hts i_B hown hK hP 2 0 rfl rfl rfl 5 (by decide) (hN _ (List.mem_of_getElem? (i := 8) rfl)) rfl rfl d_S_meet_19 ?_
    refine lv_iconst (v := nI 0) hx hb d_S_meet_22 (by decide) ?_
    refine wz_iald hx hb hK hP 2 3 (j := 0) rfl rfl (by omega) (by omega) d_S_meet_23 ?_
    refine wz_topi (y := nI jx) ejx ?_
    refine wz_iald hx hb hK hP 1 1 (j := jx) rfl rfl (by omega) (by omega) d_S_meet_24 ?_
    refine wz_topi (y := nI e) ((hblS.2.1 jx gl hjx).1.trans (by rw [he]; rfl)) ?_
    refine lv_istore_n (lv' := [(3, .int (nI e)), (0, .ref (as9 0)), (1, .ref (ah 0)), (2, .int (nI ms9))]) hx hb d_S_meet_25 rfl hl (by decide) rfl (fun ls hl => ?_)
    refine lv_iload_n hx hb d_S_meet_26 rfl (lv_at hl 0 rfl) ?_
    refine lv_iload_n hx hb d_S_meet_27 rfl (lv_at hl 3 rfl) ?_
    refine wz_gt (tgt := 35) hx hb d_S_meet_28 (by decide) (by omega) (by omega) (fun hc2 => ?_) (fun hc2 => ?_)
    · skip
      refine lv_iconst (v := (-1)) hx hb d_S_meet_35 (by decide) ?_
      exact wz_iret hx hb hr hlocks hK hP hD hS d_S_meet_36 ⟨G, st, sl, L, S, fa, wy, re, ly, dp, cb, T, fk, wk, rk, 0, 0, false, rfl, ⟨[], by simp⟩, hok, hblS, hblT, hbS, hbT, hdS, Nat.le_refl 0, (Or.inl ⟨rfl, fun K9 hK9 => by rw [pz_dist_eq hK9 hdist]; exact hc2⟩)⟩
    · skip
      refine lv_iload_n hx hb d_S_meet_31 rfl (lv_at hl 0 rfl) ?_
      refine lv_goto (tgt := 36) hx hb d_S_meet_32 (by decide) ?_
      exact wz_iret hx hb hr hlocks hK hP hD hS d_S_meet_36 ⟨G, st, sl, L, S, fa, wy, re, ly, dp, cb, T, fk, wk, rk, 0, 0, false, rfl, ⟨[], by simp⟩, hok, hblS, hblT, hbS, hbT, hdS, Nat.le_refl 0, (Or.inr ⟨e, e, rfl, hdist, hc2, rfl, pz_ball_le hbS he⟩)⟩
end
section
theorem d_S_waysThroughMeeting_0 : decode b_S_waysThroughMeeting 0 = .ok (.aload_n 0, 1) := by decide +kernel
theorem d_S_waysThroughMeeting_1 : decode b_S_waysThroughMeeting 1 = .ok (.getfield 9, 3) := by decide +kernel
theorem d_S_waysThroughMeeting_4 : decode b_S_waysThroughMeeting 4 = .ok (.aload_n 0, 1) := by decide +kernel
theorem d_S_waysThroughMeeting_5 : decode b_S_waysThroughMeeting 5 = .ok (.getfield 47, 3) := by decide +kernel
theorem d_S_waysThroughMeeting_8 : decode b_S_waysThroughMeeting 8 = .ok (.getfield 114, 3) := by decide +kernel
theorem d_S_waysThroughMeeting_11 : decode b_S_waysThroughMeeting 11 = .ok (.isub, 1) := by decide +kernel
theorem d_S_waysThroughMeeting_12 : decode b_S_waysThroughMeeting 12 = .ok (.istore_n 2, 1) := by decide +kernel
theorem d_S_waysThroughMeeting_13 : decode b_S_waysThroughMeeting 13 = .ok (.lconst 0, 1) := by decide +kernel
theorem d_S_waysThroughMeeting_14 : decode b_S_waysThroughMeeting 14 = .ok (.lstore_n 3, 1) := by decide +kernel
theorem d_S_waysThroughMeeting_15 : decode b_S_waysThroughMeeting 15 = .ok (.aload_n 0, 1) := by decide +kernel
theorem d_S_waysThroughMeeting_16 : decode b_S_waysThroughMeeting 16 = .ok (.getfield 47, 3) := by decide +kernel
theorem d_S_waysThroughMeeting_19 : decode b_S_waysThroughMeeting 19 = .ok (.getfield 128, 3) := by decide +kernel
theorem d_S_waysThroughMeeting_22 : decode b_S_waysThroughMeeting 22 = .ok (.istore 5, 2) := by decide +kernel
theorem d_S_waysThroughMeeting_24 : decode b_S_waysThroughMeeting 24 = .ok (.iload 5, 2) := by decide +kernel
theorem d_S_waysThroughMeeting_26 : decode b_S_waysThroughMeeting 26 = .ok (.aload_n 0, 1) := by decide +kernel
theorem d_S_waysThroughMeeting_27 : decode b_S_waysThroughMeeting 27 = .ok (.getfield 47, 3) := by decide +kernel
theorem d_S_waysThroughMeeting_30 : decode b_S_waysThroughMeeting 30 = .ok (.getfield 131, 3) := by decide +kernel
theorem d_S_waysThroughMeeting_33 : decode b_S_waysThroughMeeting 33 = .ok (.if_icmp .ge 53, 3) := by decide +kernel
theorem d_S_waysThroughMeeting_36 : decode b_S_waysThroughMeeting 36 = .ok (.aload_n 0, 1) := by decide +kernel
theorem d_S_waysThroughMeeting_37 : decode b_S_waysThroughMeeting 37 = .ok (.getfield 47, 3) := by decide +kernel
theorem d_S_waysThroughMeeting_40 : decode b_S_waysThroughMeeting 40 = .ok (.getfield 111, 3) := by decide +kernel
theorem d_S_waysThroughMeeting_43 : decode b_S_waysThroughMeeting 43 = .ok (.iload 5, 2) := by decide +kernel
theorem d_S_waysThroughMeeting_45 : decode b_S_waysThroughMeeting 45 = .ok (.iaload, 1) := by decide +kernel
theorem d_S_waysThroughMeeting_46 : decode b_S_waysThroughMeeting 46 = .ok (.istore 6, 2) := by decide +kernel
theorem d_S_waysThroughMeeting_48 : decode b_S_waysThroughMeeting 48 = .ok (.aload_n 1, 1) := by decide +kernel
theorem d_S_waysThroughMeeting_49 : decode b_S_waysThroughMeeting 49 = .ok (.getfield 108, 3) := by decide +kernel
theorem d_S_waysThroughMeeting_52 : decode b_S_waysThroughMeeting 52 = .ok (.iload 6, 2) := by decide +kernel
theorem d_S_waysThroughMeeting_54 : decode b_S_waysThroughMeeting 54 = .ok (.iaload, 1) := by decide +kernel
theorem d_S_waysThroughMeeting_55 : decode b_S_waysThroughMeeting 55 = .ok (.iload_n 2, 1) := by decide +kernel
theorem d_S_waysThroughMeeting_56 : decode b_S_waysThroughMeeting 56 = .ok (.if_icmp .ne 24, 3) := by decide +kernel
theorem d_S_waysThroughMeeting_59 : decode b_S_waysThroughMeeting 59 = .ok (.lload_n 3, 1) := by decide +kernel
theorem d_S_waysThroughMeeting_60 : decode b_S_waysThroughMeeting 60 = .ok (.aload_n 1, 1) := by decide +kernel
theorem d_S_waysThroughMeeting_61 : decode b_S_waysThroughMeeting 61 = .ok (.getfield 134, 3) := by decide +kernel
theorem d_S_waysThroughMeeting_64 : decode b_S_waysThroughMeeting 64 = .ok (.iload 6, 2) := by decide +kernel
theorem d_S_waysThroughMeeting_66 : decode b_S_waysThroughMeeting 66 = .ok (.laload, 1) := by decide +kernel
theorem d_S_waysThroughMeeting_67 : decode b_S_waysThroughMeeting 67 = .ok (.aload_n 0, 1) := by decide +kernel
theorem d_S_waysThroughMeeting_68 : decode b_S_waysThroughMeeting 68 = .ok (.getfield 47, 3) := by decide +kernel
theorem d_S_waysThroughMeeting_71 : decode b_S_waysThroughMeeting 71 = .ok (.getfield 134, 3) := by decide +kernel
theorem d_S_waysThroughMeeting_74 : decode b_S_waysThroughMeeting 74 = .ok (.iload 6, 2) := by decide +kernel
theorem d_S_waysThroughMeeting_76 : decode b_S_waysThroughMeeting 76 = .ok (.laload, 1) := by decide +kernel
theorem d_S_waysThroughMeeting_77 : decode b_S_waysThroughMeeting 77 = .ok (.lmul, 1) := by decide +kernel
theorem d_S_waysThroughMeeting_78 : decode b_S_waysThroughMeeting 78 = .ok (.ladd, 1) := by decide +kernel
theorem d_S_waysThroughMeeting_79 : decode b_S_waysThroughMeeting 79 = .ok (.lstore_n 3, 1) := by decide +kernel
theorem d_S_waysThroughMeeting_80 : decode b_S_waysThroughMeeting 80 = .ok (.iinc 5 1, 3) := by decide +kernel
theorem d_S_waysThroughMeeting_83 : decode b_S_waysThroughMeeting 83 = .ok (.goto (-59), 3) := by decide +kernel
theorem d_S_waysThroughMeeting_86 : decode b_S_waysThroughMeeting 86 = .ok (.lload_n 3, 1) := by decide +kernel
theorem d_S_waysThroughMeeting_87 : decode b_S_waysThroughMeeting 87 = .ok (.lreturn, 1) := by decide +kernel
theorem d_S_leadBackFrom_0 : decode b_S_leadBackFrom 0 = .ok (.aload_n 0, 1) := by decide +kernel
theorem d_S_leadBackFrom_1 : decode b_S_leadBackFrom 1 = .ok (.getfield 18, 3) := by decide +kernel
theorem d_S_leadBackFrom_4 : decode b_S_leadBackFrom 4 = .ok (.aload_n 0, 1) := by decide +kernel
theorem d_S_leadBackFrom_5 : decode b_S_leadBackFrom 5 = .ok (.getfield 47, 3) := by decide +kernel
theorem d_S_leadBackFrom_8 : decode b_S_leadBackFrom 8 = .ok (.getfield 146, 3) := by decide +kernel
theorem d_S_leadBackFrom_11 : decode b_S_leadBackFrom 11 = .ok (.iload_n 2, 1) := by decide +kernel
theorem d_S_leadBackFrom_12 : decode b_S_leadBackFrom 12 = .ok (.invokevirtual 149, 3) := by decide +kernel
theorem d_S_leadBackFrom_15 : decode b_S_leadBackFrom 15 = .ok (.istore 4, 2) := by decide +kernel
theorem d_S_leadBackFrom_17 : decode b_S_leadBackFrom 17 = .ok (.aload_n 3, 1) := by decide +kernel
theorem d_S_leadBackFrom_18 : decode b_S_leadBackFrom 18 = .ok (.getfield 108, 3) := by decide +kernel
theorem d_S_leadBackFrom_21 : decode b_S_leadBackFrom 21 = .ok (.iload_n 1, 1) := by decide +kernel
theorem d_S_leadBackFrom_22 : decode b_S_leadBackFrom 22 = .ok (.iaload, 1) := by decide +kernel
theorem d_S_leadBackFrom_23 : decode b_S_leadBackFrom 23 = .ok (.iconst 1, 1) := by decide +kernel
theorem d_S_leadBackFrom_24 : decode b_S_leadBackFrom 24 = .ok (.isub, 1) := by decide +kernel
theorem d_S_leadBackFrom_25 : decode b_S_leadBackFrom 25 = .ok (.istore 5, 2) := by decide +kernel
theorem d_S_leadBackFrom_27 : decode b_S_leadBackFrom 27 = .ok (.iload_n 1, 1) := by decide +kernel
theorem d_S_leadBackFrom_28 : decode b_S_leadBackFrom 28 = .ok (.istore 6, 2) := by decide +kernel
theorem d_S_leadBackFrom_30 : decode b_S_leadBackFrom 30 = .ok (.iconst 1, 1) := by decide +kernel
theorem d_S_leadBackFrom_31 : decode b_S_leadBackFrom 31 = .ok (.istore 7, 2) := by decide +kernel
theorem d_S_leadBackFrom_33 : decode b_S_leadBackFrom 33 = .ok (.iload 7, 2) := by decide +kernel
theorem d_S_leadBackFrom_35 : decode b_S_leadBackFrom 35 = .ok (.iload 4, 2) := by decide +kernel
theorem d_S_leadBackFrom_37 : decode b_S_leadBackFrom 37 = .ok (.if_icmp .gt 70, 3) := by decide +kernel
theorem d_S_leadBackFrom_40 : decode b_S_leadBackFrom 40 = .ok (.aload_n 0, 1) := by decide +kernel
theorem d_S_leadBackFrom_41 : decode b_S_leadBackFrom 41 = .ok (.getfield 31, 3) := by decide +kernel
theorem d_S_leadBackFrom_44 : decode b_S_leadBackFrom 44 = .ok (.iload_n 2, 1) := by decide +kernel
theorem d_S_leadBackFrom_45 : decode b_S_leadBackFrom 45 = .ok (.bipush 6, 2) := by decide +kernel
theorem d_S_leadBackFrom_47 : decode b_S_leadBackFrom 47 = .ok (.iadd, 1) := by decide +kernel
theorem d_S_leadBackFrom_48 : decode b_S_leadBackFrom 48 = .ok (.iload 6, 2) := by decide +kernel
theorem d_S_leadBackFrom_50 : decode b_S_leadBackFrom 50 = .ok (.invokevirtual 152, 3) := by decide +kernel
theorem d_S_leadBackFrom_53 : decode b_S_leadBackFrom 53 = .ok (.istore 6, 2) := by decide +kernel
theorem d_S_leadBackFrom_55 : decode b_S_leadBackFrom 55 = .ok (.aload_n 3, 1) := by decide +kernel
theorem d_S_leadBackFrom_56 : decode b_S_leadBackFrom 56 = .ok (.getfield 108, 3) := by decide +kernel
theorem d_S_leadBackFrom_59 : decode b_S_leadBackFrom 59 = .ok (.iload 6, 2) := by decide +kernel
theorem d_S_leadBackFrom_61 : decode b_S_leadBackFrom 61 = .ok (.iaload, 1) := by decide +kernel
theorem d_S_leadBackFrom_62 : decode b_S_leadBackFrom 62 = .ok (.iload 5, 2) := by decide +kernel
theorem d_S_leadBackFrom_64 : decode b_S_leadBackFrom 64 = .ok (.if_icmp .ne 37, 3) := by decide +kernel
theorem d_S_leadBackFrom_67 : decode b_S_leadBackFrom 67 = .ok (.aload_n 0, 1) := by decide +kernel
theorem d_S_leadBackFrom_68 : decode b_S_leadBackFrom 68 = .ok (.getfield 47, 3) := by decide +kernel
theorem d_S_leadBackFrom_71 : decode b_S_leadBackFrom 71 = .ok (.getfield 108, 3) := by decide +kernel
theorem d_S_leadBackFrom_74 : decode b_S_leadBackFrom 74 = .ok (.iload 6, 2) := by decide +kernel
theorem d_S_leadBackFrom_76 : decode b_S_leadBackFrom 76 = .ok (.iaload, 1) := by decide +kernel
theorem d_S_leadBackFrom_77 : decode b_S_leadBackFrom 77 = .ok (.iconst (-1), 1) := by decide +kernel
theorem d_S_leadBackFrom_78 : decode b_S_leadBackFrom 78 = .ok (.if_icmp .ne 23, 3) := by decide +kernel
theorem d_S_leadBackFrom_81 : decode b_S_leadBackFrom 81 = .ok (.aload_n 0, 1) := by decide +kernel
theorem d_S_leadBackFrom_82 : decode b_S_leadBackFrom 82 = .ok (.getfield 47, 3) := by decide +kernel
theorem d_S_leadBackFrom_85 : decode b_S_leadBackFrom 85 = .ok (.iload 6, 2) := by decide +kernel
theorem d_S_leadBackFrom_87 : decode b_S_leadBackFrom 87 = .ok (.aload_n 0, 1) := by decide +kernel
theorem d_S_leadBackFrom_88 : decode b_S_leadBackFrom 88 = .ok (.getfield 47, 3) := by decide +kernel
theorem d_S_leadBackFrom_91 : decode b_S_leadBackFrom 91 = .ok (.getfield 108, 3) := by decide +kernel
theorem d_S_leadBackFrom_94 : decode b_S_leadBackFrom 94 = .ok (.iload_n 1, 1) := by decide +kernel
theorem d_S_leadBackFrom_95 : decode b_S_leadBackFrom 95 = .ok (.iaload, 1) := by decide +kernel
theorem d_S_leadBackFrom_96 : decode b_S_leadBackFrom 96 = .ok (.iconst 1, 1) := by decide +kernel
theorem d_S_leadBackFrom_97 : decode b_S_leadBackFrom 97 = .ok (.iadd, 1) := by decide +kernel
theorem d_S_leadBackFrom_98 : decode b_S_leadBackFrom 98 = .ok (.invokevirtual 155, 3) := by decide +kernel
theorem d_S_leadBackFrom_101 : decode b_S_leadBackFrom 101 = .ok (.iinc 7 1, 3) := by decide +kernel
theorem d_S_leadBackFrom_104 : decode b_S_leadBackFrom 104 = .ok (.goto (-71), 3) := by decide +kernel
theorem d_S_leadBackFrom_107 : decode b_S_leadBackFrom 107 = .ok (.return_, 1) := by decide +kernel
theorem d_S_leadBackToStart_0 : decode b_S_leadBackToStart 0 = .ok (.aload_n 0, 1) := by decide +kernel
theorem d_S_leadBackToStart_1 : decode b_S_leadBackToStart 1 = .ok (.getfield 47, 3) := by decide +kernel
theorem d_S_leadBackToStart_4 : decode b_S_leadBackToStart 4 = .ok (.getfield 128, 3) := by decide +kernel
theorem d_S_leadBackToStart_7 : decode b_S_leadBackToStart 7 = .ok (.istore_n 2, 1) := by decide +kernel
theorem d_S_leadBackToStart_8 : decode b_S_leadBackToStart 8 = .ok (.iload_n 2, 1) := by decide +kernel
theorem d_S_leadBackToStart_9 : decode b_S_leadBackToStart 9 = .ok (.aload_n 0, 1) := by decide +kernel
theorem d_S_leadBackToStart_10 : decode b_S_leadBackToStart 10 = .ok (.getfield 47, 3) := by decide +kernel
theorem d_S_leadBackToStart_13 : decode b_S_leadBackToStart 13 = .ok (.getfield 131, 3) := by decide +kernel
theorem d_S_leadBackToStart_16 : decode b_S_leadBackToStart 16 = .ok (.if_icmp .ge 89, 3) := by decide +kernel
theorem d_S_leadBackToStart_19 : decode b_S_leadBackToStart 19 = .ok (.iload_n 2, 1) := by decide +kernel
theorem d_S_leadBackToStart_20 : decode b_S_leadBackToStart 20 = .ok (.aload_n 0, 1) := by decide +kernel
theorem d_S_leadBackToStart_21 : decode b_S_leadBackToStart 21 = .ok (.getfield 50, 3) := by decide +kernel
theorem d_S_leadBackToStart_24 : decode b_S_leadBackToStart 24 = .ok (.arraylength, 1) := by decide +kernel
theorem d_S_leadBackToStart_25 : decode b_S_leadBackToStart 25 = .ok (.if_icmp .ge 80, 3) := by decide +kernel
theorem d_S_leadBackToStart_28 : decode b_S_leadBackToStart 28 = .ok (.aload_n 0, 1) := by decide +kernel
theorem d_S_leadBackToStart_29 : decode b_S_leadBackToStart 29 = .ok (.getfield 47, 3) := by decide +kernel
theorem d_S_leadBackToStart_32 : decode b_S_leadBackToStart 32 = .ok (.getfield 111, 3) := by decide +kernel
theorem d_S_leadBackToStart_35 : decode b_S_leadBackToStart 35 = .ok (.iload_n 2, 1) := by decide +kernel
theorem d_S_leadBackToStart_36 : decode b_S_leadBackToStart 36 = .ok (.iaload, 1) := by decide +kernel
theorem d_S_leadBackToStart_37 : decode b_S_leadBackToStart 37 = .ok (.istore_n 3, 1) := by decide +kernel
theorem d_S_leadBackToStart_38 : decode b_S_leadBackToStart 38 = .ok (.aload_n 0, 1) := by decide +kernel
theorem d_S_leadBackToStart_39 : decode b_S_leadBackToStart 39 = .ok (.getfield 9, 3) := by decide +kernel
theorem d_S_leadBackToStart_42 : decode b_S_leadBackToStart 42 = .ok (.aload_n 0, 1) := by decide +kernel
theorem d_S_leadBackToStart_43 : decode b_S_leadBackToStart 43 = .ok (.getfield 47, 3) := by decide +kernel
theorem d_S_leadBackToStart_46 : decode b_S_leadBackToStart 46 = .ok (.getfield 108, 3) := by decide +kernel
theorem d_S_leadBackToStart_49 : decode b_S_leadBackToStart 49 = .ok (.iload_n 3, 1) := by decide +kernel
theorem d_S_leadBackToStart_50 : decode b_S_leadBackToStart 50 = .ok (.iaload, 1) := by decide +kernel
theorem d_S_leadBackToStart_51 : decode b_S_leadBackToStart 51 = .ok (.isub, 1) := by decide +kernel
theorem d_S_leadBackToStart_52 : decode b_S_leadBackToStart 52 = .ok (.istore 4, 2) := by decide +kernel
theorem d_S_leadBackToStart_54 : decode b_S_leadBackToStart 54 = .ok (.iload 4, 2) := by decide +kernel
theorem d_S_leadBackToStart_56 : decode b_S_leadBackToStart 56 = .ok (.ifCond .le 43, 3) := by decide +kernel
theorem d_S_leadBackToStart_59 : decode b_S_leadBackToStart 59 = .ok (.aload_n 1, 1) := by decide +kernel
theorem d_S_leadBackToStart_60 : decode b_S_leadBackToStart 60 = .ok (.getfield 108, 3) := by decide +kernel
theorem d_S_leadBackToStart_63 : decode b_S_leadBackToStart 63 = .ok (.iload_n 3, 1) := by decide +kernel
theorem d_S_leadBackToStart_64 : decode b_S_leadBackToStart 64 = .ok (.iaload, 1) := by decide +kernel
theorem d_S_leadBackToStart_65 : decode b_S_leadBackToStart 65 = .ok (.iload 4, 2) := by decide +kernel
theorem d_S_leadBackToStart_67 : decode b_S_leadBackToStart 67 = .ok (.if_icmp .ne 32, 3) := by decide +kernel
theorem d_S_leadBackToStart_70 : decode b_S_leadBackToStart 70 = .ok (.iconst 0, 1) := by decide +kernel
theorem d_S_leadBackToStart_71 : decode b_S_leadBackToStart 71 = .ok (.istore 5, 2) := by decide +kernel
theorem d_S_leadBackToStart_73 : decode b_S_leadBackToStart 73 = .ok (.iload 5, 2) := by decide +kernel
theorem d_S_leadBackToStart_75 : decode b_S_leadBackToStart 75 = .ok (.aload_n 0, 1) := by decide +kernel
theorem d_S_leadBackToStart_76 : decode b_S_leadBackToStart 76 = .ok (.getfield 18, 3) := by decide +kernel
theorem d_S_leadBackToStart_79 : decode b_S_leadBackToStart 79 = .ok (.getfield 137, 3) := by decide +kernel
theorem d_S_leadBackToStart_82 : decode b_S_leadBackToStart 82 = .ok (.if_icmp .ge 17, 3) := by decide +kernel
theorem d_S_leadBackToStart_85 : decode b_S_leadBackToStart 85 = .ok (.aload_n 0, 1) := by decide +kernel
theorem d_S_leadBackToStart_86 : decode b_S_leadBackToStart 86 = .ok (.iload_n 3, 1) := by decide +kernel
theorem d_S_leadBackToStart_87 : decode b_S_leadBackToStart 87 = .ok (.iload 5, 2) := by decide +kernel
theorem d_S_leadBackToStart_89 : decode b_S_leadBackToStart 89 = .ok (.aload_n 1, 1) := by decide +kernel
theorem d_S_leadBackToStart_90 : decode b_S_leadBackToStart 90 = .ok (.invokevirtual 142, 3) := by decide +kernel
theorem d_S_leadBackToStart_93 : decode b_S_leadBackToStart 93 = .ok (.iinc 5 1, 3) := by decide +kernel
theorem d_S_leadBackToStart_96 : decode b_S_leadBackToStart 96 = .ok (.goto (-23), 3) := by decide +kernel
theorem d_S_leadBackToStart_99 : decode b_S_leadBackToStart 99 = .ok (.iinc 2 1, 3) := by decide +kernel
theorem d_S_leadBackToStart_102 : decode b_S_leadBackToStart 102 = .ok (.goto (-94), 3) := by decide +kernel
theorem d_S_leadBackToStart_105 : decode b_S_leadBackToStart 105 = .ok (.return_, 1) := by decide +kernel
theorem kw_11 : (Cond.selects "TwoEndSearch$Search" ⟨"TwoEndSearch$Search", "leadBackFrom", "(IILTwoEndSearch$Ball;)V"⟩ ⟨"TwoEndSearch$Search", "leadBackFrom", "(IILTwoEndSearch$Ball;)V"⟩ : Cond) ∈ bigW := bigW_of 11 (by decide +kernel) (by decide +kernel)
theorem kw_34 : (Cond.initialized "TwoEndSearch$Search" : Cond) ∈ bigW := bigW_of 34 (by decide +kernel) (by decide +kernel)
theorem kw_262 : (Cond.fieldLink "TwoEndSearch$Search" 18 "TwoEndSearch$Search" "moves" "LTwoEndSearch$Moves;" : Cond) ∈ bigW := bigW_of 262 (by decide +kernel) (by decide +kernel)
theorem kw_263 : (Cond.fieldLink "TwoEndSearch$Search" 31 "TwoEndSearch$Search" "graph" "LTwoEndSearch$Graph;" : Cond) ∈ bigW := bigW_of 263 (by decide +kernel) (by decide +kernel)
theorem kw_273 : (Cond.fieldLink "TwoEndSearch$Search" 9 "TwoEndSearch$Search" "length" "I" : Cond) ∈ bigW := bigW_of 273 (by decide +kernel) (by decide +kernel)
theorem kw_377 : (Cond.methodLink "TwoEndSearch$Search" 142 ⟨"TwoEndSearch$Search", "leadBackFrom", "(IILTwoEndSearch$Ball;)V"⟩ : Cond) ∈ bigW := bigW_of 377 (by decide +kernel) (by decide +kernel)
theorem kw_379 : (Cond.instanceMethod ⟨"TwoEndSearch$Search", "leadBackFrom", "(IILTwoEndSearch$Ball;)V"⟩ : Cond) ∈ bigW := bigW_of 379 (by decide +kernel) (by decide +kernel)
theorem kw_380 : (Cond.code ⟨"TwoEndSearch$Search", "leadBackFrom", "(IILTwoEndSearch$Ball;)V"⟩ prog_5_method_9_code 8 none : Cond) ∈ bigW := bigW_of 380 (by decide +kernel) (by decide +kernel)
theorem kw_381 : (Cond.methodLink "TwoEndSearch$Search" 149 ⟨"TwoEndSearch$Moves", "mostTimes", "(II)I"⟩ : Cond) ∈ bigW := bigW_of 381 (by decide +kernel) (by decide +kernel)
theorem kw_382 : (Cond.methodLink "TwoEndSearch$Search" 152 ⟨"TwoEndSearch$Graph", "follow", "(II)I"⟩ : Cond) ∈ bigW := bigW_of 382 (by decide +kernel) (by decide +kernel)
theorem kw_383 : (Cond.methodLink "TwoEndSearch$Search" 155 ⟨"TwoEndSearch$Ball", "take", "(II)V"⟩ : Cond) ∈ bigW := bigW_of 383 (by decide +kernel) (by decide +kernel)
def po_S_waysThroughMeeting (q : wz_Q) (as9 ah ak ag am : Nat → Nat) (n b k : Nat) (rl rt : Nat → Nat) (fo : Nat → Int32) (M : Nat → Nat → Int32) (sg tu : Nat → Nat → Nat) (od : Nat → Nat) (a0 r1 r2 : Nat) (rw : Nat → Int32) (bg : Int32) (sx ro : Nat) (ln : Int32) (wz : Int64) (G : List Nat) (st sl : Nat → Int32) (L : Nat → Nat → Int32) (S : pz_S) (fa : Nat → Int32) (wy : Nat → Int64) (re : Nat → Int32) (ly dp : Nat) (me cm : Int32) (T : pz_S) (fk : Nat → Int32) (wk : Nat → Int64) (rk : Nat → Int32) (lk dk : Nat) (ck : Int32) (sa gl : Nat) (len i9 : Nat) (cb cc : Bool) : Int64 → wz_G → Prop := fun v w => w = [se_W q as9 n (am 0) (ag 0) r1 r2 (ak 0) (pz_fact n) rw bg sx ro ln wz, bl_W q ah (am 0) (ag 0) 0 (pz_fact n) fa wy re S.1.length ly dp me cm, bl_W q ak (am 0) (ag 0) 6 (pz_fact n) fk wk rk T.1.length lk dk me ck, gq_W q ag (am 0) (pz_fact n) (2 ^ b) (32 - b) rl st sl G.length, wz_rows 12 rl (fun i9 => .inl (q.1, pz_fact n, .inl (L i9))), mv_W q am n k rt fo, wz_rows 12 rt (fun i9 => .inl (q.1, 8, .inl (M i9)))] ∧ v = lN (pz_cnt gl (pz_ends (bl_s n k 0 sg tu od me) sa len))
set_option maxHeartbeats 4000000 in
set_option maxRecDepth 100000 in
/-- how many shortest rows -/
theorem c_S_waysThroughMeeting (l : Launch) (D : va_G) (q : wz_Q) (as9 ah ak ag am : Nat → Nat) (n b k : Nat) (rl rt : Nat → Nat) (fo : Nat → Int32) (M : Nat → Nat → Int32) (sg tu : Nat → Nat → Nat) (od : Nat → Nat) (a0 r1 r2 : Nat) (rw : Nat → Int32) (bg : Int32) (sx ro : Nat) (ln : Int32) (wz : Int64) (G : List Nat) (st sl : Nat → Int32) (L : Nat → Nat → Int32) (S : pz_S) (fa : Nat → Int32) (wy : Nat → Int64) (re : Nat → Int32) (ly dp : Nat) (me cm : Int32) (T : pz_S) (fk : Nat → Int32) (wk : Nat → Int64) (rk : Nat → Int32) (lk dk : Nat) (ck : Int32) (sa gl : Nat) (len i9 : Nat) (cb cc : Bool) (hn : n ≤ 8) (hb0 : 0 < b) (hb30 : b ≤ 30) (hM : pz_fact n < 2 ^ b) (hk : k ≤ 6) (hmv : mv_ok n k fo M sg tu od) (hok : gq_ok n a0 b k sg tu G st sl L) (hblS : bl_ok (pz_fact n) G S fa wy re) (hblT : bl_ok (pz_fact n) G T fk wk rk) (hrv : ∀ u v, pz_cnt v (bl_s n k 0 sg tu od me u) = pz_cnt u (bl_s n k 6 sg tu od me v)) (hbS : pz_ball (bl_s n k 0 sg tu od me) sa ly dp cb S) (hbT : pz_ball (bl_s n k 6 sg tu od me) gl lk dk cc T) (hdS : dp ≤ ly) (hdT : dk ≤ lk) (hln : ln = nI len) (hl9 : len = i9 + dk) (hi9 : i9 ≤ dp) (hdist : pz_dist (bl_s n k 0 sg tu od me) sa gl len) : wz_Ml l y_S_waysThroughMeeting ws_S_waysThroughMeeting ({ frames := 0, cells := 0, slots := 0, locals := 0 } : Room) D q ([.ref (as9 0), .ref (ah 0)] : List Value) [se_W q as9 n (am 0) (ag 0) r1 r2 (ak 0) (pz_fact n) rw bg sx ro ln wz, bl_W q ah (am 0) (ag 0) 0 (pz_fact n) fa wy re S.1.length ly dp me cm, bl_W q ak (am 0) (ag 0) 6 (pz_fact n) fk wk rk T.1.length lk dk me ck, gq_W q ag (am 0) (pz_fact n) (2 ^ b) (32 - b) rl st sl G.length, wz_rows 12 rl (fun i9 => .inl (q.1, pz_fact n, .inl (L i9))), mv_W q am n k rt fo, wz_rows 12 rt (fun i9 => .inl (q.1, 8, .inl (M i9)))] (po_S_waysThroughMeeting q as9 ah ak ag am n b k rl rt fo M sg tu od a0 r1 r2 rw bg sx ro ln wz G st sl L S fa wy re ly dp me cm T fk wk rk lk dk ck sa gl len i9 cb cc) 0 0 := by
  intro sz9
  refine wz_enter (cc := b_S_waysThroughMeeting) (maxL := 7) (ret := (some .long)) (Qc := fun A => (va_Ql (po_S_waysThroughMeeting q as9 ah ak ag am n b k rl rt fo M sg tu od a0 r1 r2 rw bg sx ro ln wz G st sl L S fa wy re ly dp me cm T fk wk rk lk dk ck sa gl len i9 cb cc) (wz_At D q A) A)) (by decide) (Nat.le_of_ble_eq_true rfl) ?_
  intro p e s m below meth c A ls C hP hD hS hl
  obtain ⟨hx, hb, hr, hml, hlocks, hown, hts, hN, hK, hA, hnm⟩ := C
  have hown : s.vm.findClass "TwoEndSearch$Search" = some m.cls := hown
  have hl : lv_has ls 7 [(0, .ref (as9 0)), (1, .ref (ah 0))] := hl
  have hfl := pz_fact_le hn
  have hGl := gq_len hok
  have hSl := bl_len hblS
  have hTl := bl_len hblT
  have hlyS := hbS.2.1
  have hlyT := hbT.2.1
  subst hln
  have hltS : ∀ x e, S.2.1 x = some e → e < 2 ^ 30 := pz_ball_lt hbS (by omega)
  obtain ⟨F9, hF9⟩ : ∃ F9 : Nat → Nat, F9 = fun x => if S.2.1 x = some i9 then pz_cnt x (pz_ends (bl_s n k 0 sg tu od me) sa i9) * pz_cnt x (pz_ends (bl_s n k 6 sg tu od me) gl dk) else 0 := ⟨_, rfl⟩
  refine lv_aload_n hx hb d_S_waysThroughMeeting_0 rfl (lv_at hl 0 rfl) ?_
  refine wz_get (v := .int (nI len)) (T := T_S) (N := 12) hx hb hts i_S hown hK hP 0 0 rfl rfl rfl 10 (by decide) (hts _ kw_273) rfl rfl d_S_waysThroughMeeting_1 ?_
  refine lv_aload_n hx hb d_S_waysThroughMeeting_4 rfl (lv_at hl 0 rfl) ?_
  refine wz_get (v := .ref (ak 0)) (T := T_S) (N := 12) hx hb hts i_S hown hK hP 0 0 rfl rfl rfl 5 (by decide) (hts _ kw_266) rfl rfl d_S_waysThroughMeeting_5 ?_
  refine wz_getN (v := .int (nI dk)) (T := T_B) (N := 11) hx hb hts i_B hown hK hP 2 0 rfl rfl rfl 8 (by decide) (hN _ (List.mem_of_getElem? (i := 11) rfl)) rfl rfl d_S_waysThroughMeeting_8 ?_
  refine lv_isub hx hb d_S_waysThroughMeeting_11 ?_
  refine wz_topi (y := nI i9) ((pk_sub (by omega)).trans (congrArg nI (by omega))) ?_
  refine lv_istore_n (lv' := [(2, .int (nI i9)), (0, .ref (as9 0)), (1, .ref (ah 0))]) hx hb d_S_waysThroughMeeting_12 rfl hl (by decide) rfl (fun ls hl => ?_)
  refine lv_lconst (v := 0) hx hb d_S_waysThroughMeeting_13 rfl ?_
  refine lv_lstore_n (lv' := [(3, .long 0), (2, .int (nI i9)), (0, .ref (as9 0)), (1, .ref (ah 0))]) hx hb d_S_waysThroughMeeting_14 rfl hl (by decide) rfl (fun ls hl => ?_)
  refine lv_aload_n hx hb d_S_waysThroughMeeting_15 rfl (lv_at hl 2 rfl) ?_
  refine wz_get (v := .ref (ak 0)) (T := T_S) (N := 12) hx hb hts i_S hown hK hP 0 0 rfl rfl rfl 5 (by decide) (hts _ kw_266) rfl rfl d_S_waysThroughMeeting_16 ?_
  refine wz_getN (v := .int (nI lk)) (T := T_B) (N := 11) hx hb hts i_B hown hK hP 2 0 rfl rfl rfl 7 (by decide) (hN _ (List.mem_of_getElem? (i := 10) rfl)) rfl rfl d_S_waysThroughMeeting_19 ?_
  refine lv_istore (lv' := [(5, .int (nI lk)), (3, .long 0), (2, .int (nI i9)), (0, .ref (as9 0)), (1, .ref (ah 0))]) hx hb d_S_waysThroughMeeting_22 hl (by decide) rfl (fun ls hl => ?_)
  have loop : ∀ (d : Nat) (u : Nat), lk + u ≤ T.1.length → T.1.length + 1 ≤ lk + u + d → ∀ (H : Heap) (locs : List Loc) (ls : Array Slot), va_P D vwCl ([se_W q as9 n (am 0) (ag 0) r1 r2 (ak 0) (pz_fact n) rw bg sx ro (nI len) wz, bl_W q ah (am 0) (ag 0) 0 (pz_fact n) fa wy re S.1.length ly dp me cm, bl_W q ak (am 0) (ag 0) 6 (pz_fact n) fk wk rk T.1.length lk dk me ck, gq_W q ag (am 0) (pz_fact n) (2 ^ b) (32 - b) rl st sl G.length, wz_rows 12 rl (fun i9 => .inl (q.1, pz_fact n, .inl (L i9))), mv_W q am n k rt fo, wz_rows 12 rt (fun i9 => .inl (q.1, 8, .inl (M i9)))] : wz_G).flatten H → va_D A ([se_W q as9 n (am 0) (ag 0) r1 r2 (ak 0) (pz_fact n) rw bg sx ro (nI len) wz, bl_W q ah (am 0) (ag 0) 0 (pz_fact n) fa wy re S.1.length ly dp me cm, bl_W q ak (am 0) (ag 0) 6 (pz_fact n) fk wk rk T.1.length lk dk me ck, gq_W q ag (am 0) (pz_fact n) (2 ^ b) (32 - b) rl st sl G.length, wz_rows 12 rl (fun i9 => .inl (q.1, pz_fact n, .inl (L i9))), mv_W q am n k rt fo, wz_rows 12 rt (fun i9 => .inl (q.1, 8, .inl (M i9)))] : wz_G).flatten → va_S A s.heap H locs → lv_has ls 7 [(0, .ref (as9 0)), (1, .ref (ah 0)), (2, .int (nI i9)), (3, .long (lN (pz_sum F9 ((T.1.drop lk).take u)))), (5, .int (nI (lk + u)))] → W p l e ({ frames := 0, cells := 0, slots := 0, locals := 0 } : Room) s m ([.ref (as9 0), .ref (ah 0)] : List Value).toArray below meth c H locs 0 0 (MQ below (va_Ql (po_S_waysThroughMeeting q as9 ah ak ag am n b k rl rt fo M sg tu od a0 r1 r2 rw bg sx ro (nI len) wz G st sl L S fa wy re ly dp me cm T fk wk rk lk dk ck sa gl len i9 cb cc) (wz_At D q A) A) ([.ref (as9 0), .ref (ah 0)] : List Value).toArray s 0 0 A) (F0 m 24 ls []) := by
    intro d
    induction d with
    | zero =>
      intro u hu hd
      omega
    | succ d ih =>
      intro u hu hd H locs ls hP hD hS hl
      refine lv_iload hx hb d_S_waysThroughMeeting_24 (lv_at hl 4 rfl) ?_
      refine lv_aload_n hx hb d_S_waysThroughMeeting_26 rfl (lv_at hl 0 rfl) ?_
      refine wz_get (v := .ref (ak 0)) (T := T_S) (N := 12) hx hb hts i_S hown hK hP 0 0 rfl rfl rfl 5 (by decide) (hts _ kw_266) rfl rfl d_S_waysThroughMeeting_27 ?_
      refine wz_getN (v := .int (nI T.1.length)) (T := T_B) (N := 11) hx hb hts i_B hown hK hP 2 0 rfl rfl rfl 6 (by decide) (hN _ (List.mem_of_getElem? (i := 9) rfl)) rfl rfl d_S_waysThroughMeeting_30 ?_
      refine wz_ge (tgt := 86) hx hb d_S_waysThroughMeeting_33 (by decide) (by omega) (by omega) (fun hc => ?_) (fun hc => ?_)
      · skip
        have htk : (T.1.drop lk).take u = T.1.drop lk := List.take_of_length_le (by rw [List.length_drop]; omega)
        have hway := pz_meet_ways hrv hbS hbT hi9 (by rw [← hl9]; exact hdist)
        rw [← hF9, ← hl9] at hway
        refine lv_lload_n hx hb d_S_waysThroughMeeting_86 rfl (lv_at hl 3 rfl) ?_
        exact wz_lret hx hb hr hlocks hK hP hD hS d_S_waysThroughMeeting_87 ⟨rfl, by rw [htk, hway]⟩
      · skip
        obtain ⟨x, hgx⟩ : ∃ x, T.1[lk + u]? = some x := ⟨_, List.getElem?_eq_getElem hc⟩
        obtain ⟨j, ej, hj⟩ := hblT.2.2.2 _ x hgx
        have hjl := (List.getElem?_eq_some_iff.mp hj).1
        have hgd : (T.1.drop lk)[u]? = some x := by rw [List.getElem?_drop]; exact hgx
        have hTx := (pz_ball_last hbT).mpr ⟨lk + u, by omega, hgx⟩
        have hsn : pz_sum F9 ((T.1.drop lk).take (u + 1)) = pz_sum F9 ((T.1.drop lk).take u) + F9 x := by rw [pz_take_snoc hgd, pz_sum_app, pz_sum_one]
        refine lv_aload_n hx hb d_S_waysThroughMeeting_36 rfl (lv_at hl 0 rfl) ?_
        refine wz_get (v := .ref (ak 0)) (T := T_S) (N := 12) hx hb hts i_S hown hK hP 0 0 rfl rfl rfl 5 (by decide) (hts _ kw_266) rfl rfl d_S_waysThroughMeeting_37 ?_
        refine wz_getN (v := .ref (ak 3)) (T := T_B) (N := 11) hx hb hts i_B hown hK hP 2 0 rfl rfl rfl 5 (by decide) (hN _ (List.mem_of_getElem? (i := 8) rfl)) rfl rfl d_S_waysThroughMeeting_40 ?_
        refine lv_iload hx hb d_S_waysThroughMeeting_43 (lv_at hl 4 rfl) ?_
        refine wz_iald hx hb hK hP 2 3 (j := (lk + u)) rfl rfl (by omega) (by omega) d_S_waysThroughMeeting_45 ?_
        refine wz_topi (y := nI j) ej ?_
        refine lv_istore (lv' := [(6, .int (nI j)), (0, .ref (as9 0)), (1, .ref (ah 0)), (2, .int (nI i9)), (3, .long (lN (pz_sum F9 ((T.1.drop lk).take u)))), (5, .int (nI (lk + u)))]) hx hb d_S_waysThroughMeeting_46 hl (by decide) rfl (fun ls hl => ?_)
        refine lv_aload_n hx hb d_S_waysThroughMeeting_48 rfl (lv_at hl 2 rfl) ?_
        refine wz_getN (v := .ref (ah 1)) (T := T_B) (N := 11) hx hb hts i_B hown hK hP 1 0 rfl rfl rfl 3 (by decide) (hN _ (List.mem_of_getElem? (i := 6) rfl)) rfl rfl d_S_waysThroughMeeting_49 ?_
        refine lv_iload hx hb d_S_waysThroughMeeting_52 (lv_at hl 0 rfl) ?_
        refine wz_iald hx hb hK hP 1 1 (j := j) rfl rfl (by omega) (by omega) d_S_waysThroughMeeting_54 ?_
        refine wz_topi (y := (bl_fo (S.2.1 x))) (hblS.2.1 j x hj).1 ?_
        refine lv_iload_n hx hb d_S_waysThroughMeeting_55 rfl (lv_at hl 3 rfl) ?_
        refine lv_icmp_ne (tgt := 80) hx hb d_S_waysThroughMeeting_56 (by decide) (fun hc2 => ?_) (fun hc2 => ?_)
        · skip
          have h0 : F9 x = 0 := by rw [hF9]; exact if_neg (fun q => hc2 ((bl_fo_s (fun e he => hltS x e he) (by omega)).mpr q))
          have hsn2 : pz_sum F9 ((T.1.drop lk).take u) = pz_sum F9 ((T.1.drop lk).take (u + 1)) := by rw [hsn, h0]; rfl
          rw [hsn2] at hl
          refine lv_iinc (v := nI ((lk + u) + 1)) (lv' := [(5, .int (nI ((lk + u) + 1))), (6, .int (nI j)), (0, .ref (as9 0)), (1, .ref (ah 0)), (2, .int (nI i9)), (3, .long (lN (pz_sum F9 ((T.1.drop lk).take (u + 1)))))]) hx hb d_S_waysThroughMeeting_80 hl (k := 5) rfl (nI_1 (lk + u)) (by decide) rfl (fun ls hl => ?_)
          refine lv_goto (tgt := 24) hx hb d_S_waysThroughMeeting_83 (by decide) ?_
          exact ih (u + 1) (by omega) (by omega) _ _ _ hP hD hS (lv_sub hl [2, 3, 4, 5, 0] rfl)
        · skip
          have hSx := (bl_fo_s (fun e he => hltS x e he) (by omega)).mp hc2
          have h0 : F9 x = pz_cnt x (pz_ends (bl_s n k 0 sg tu od me) sa i9) * pz_cnt x (pz_ends (bl_s n k 6 sg tu od me) gl dk) := by rw [hF9]; exact if_pos hSx
          rw [h0] at hsn
          refine lv_lload_n hx hb d_S_waysThroughMeeting_59 rfl (lv_at hl 4 rfl) ?_
          refine lv_aload_n hx hb d_S_waysThroughMeeting_60 rfl (lv_at hl 2 rfl) ?_
          refine wz_getN (v := .ref (ah 2)) (T := T_B) (N := 11) hx hb hts i_B hown hK hP 1 0 rfl rfl rfl 4 (by decide) (hN _ (List.mem_of_getElem? (i := 7) rfl)) rfl rfl d_S_waysThroughMeeting_61 ?_
          refine lv_iload hx hb d_S_waysThroughMeeting_64 (lv_at hl 0 rfl) ?_
          refine wz_lald hx hb hK hP 1 2 (j := j) rfl rfl (by omega) (by omega) d_S_waysThroughMeeting_66 ?_
          refine wz_topl (y := (lN (pz_cnt x (pz_ends (bl_s n k 0 sg tu od me) sa i9)))) (((hblS.2.1 j x hj).2 (pz_sn hSx)).trans (pz_ball_ways hbS hSx)) ?_
          refine lv_aload_n hx hb d_S_waysThroughMeeting_67 rfl (lv_at hl 1 rfl) ?_
          refine wz_get (v := .ref (ak 0)) (T := T_S) (N := 12) hx hb hts i_S hown hK hP 0 0 rfl rfl rfl 5 (by decide) (hts _ kw_266) rfl rfl d_S_waysThroughMeeting_68 ?_
          refine wz_getN (v := .ref (ak 2)) (T := T_B) (N := 11) hx hb hts i_B hown hK hP 2 0 rfl rfl rfl 4 (by decide) (hN _ (List.mem_of_getElem? (i := 7) rfl)) rfl rfl d_S_waysThroughMeeting_71 ?_
          refine lv_iload hx hb d_S_waysThroughMeeting_74 (lv_at hl 0 rfl) ?_
          refine wz_lald hx hb hK hP 2 2 (j := j) rfl rfl (by omega) (by omega) d_S_waysThroughMeeting_76 ?_
          refine wz_topl (y := (lN (pz_cnt x (pz_ends (bl_s n k 6 sg tu od me) gl dk)))) (((hblT.2.1 j x hj).2 (pz_sn hTx)).trans (pz_ball_ways hbT hTx)) ?_
          refine lv_lmul hx hb d_S_waysThroughMeeting_77 ?_
          refine wz_topl (y := (lN (pz_cnt x (pz_ends (bl_s n k 0 sg tu od me) sa i9) * pz_cnt x (pz_ends (bl_s n k 6 sg tu od me) gl dk)))) (lN_mul _ _) ?_
          refine lv_ladd hx hb d_S_waysThroughMeeting_78 ?_
          refine wz_topl (y := (lN (pz_sum F9 ((T.1.drop lk).take (u + 1))))) ((lN_add _ _).trans (by rw [hsn])) ?_
          refine lv_lstore_n (lv' := [(3, .long (lN (pz_sum F9 ((T.1.drop lk).take (u + 1))))), (6, .int (nI j)), (0, .ref (as9 0)), (1, .ref (ah 0)), (2, .int (nI i9)), (5, .int (nI (lk + u)))]) hx hb d_S_waysThroughMeeting_79 rfl hl (by decide) rfl (fun ls hl => ?_)
          refine lv_iinc (v := nI ((lk + u) + 1)) (lv' := [(5, .int (nI ((lk + u) + 1))), (3, .long (lN (pz_sum F9 ((T.1.drop lk).take (u + 1))))), (6, .int (nI j)), (0, .ref (as9 0)), (1, .ref (ah 0)), (2, .int (nI i9))]) hx hb d_S_waysThroughMeeting_80 hl (k := 5) rfl (nI_1 (lk + u)) (by decide) rfl (fun ls hl => ?_)
          refine lv_goto (tgt := 24) hx hb d_S_waysThroughMeeting_83 (by decide) ?_
          exact ih (u + 1) (by omega) (by omega) _ _ _ hP hD hS (lv_sub hl [3, 4, 5, 1, 0] rfl)
  exact loop (T.1.length + 1) 0 (by omega) (by omega) _ _ _ hP hD hS (lv_sub hl [3, 4, 2, 1, 0] rfl)
def po_S_leadBackFrom (q : wz_Q) (as9 ah ak ag am : Nat → Nat) (n b k : Nat) (rl rt : Nat → Nat) (fo : Nat → Int32) (M : Nat → Nat → Int32) (sg tu : Nat → Nat → Nat) (od : Nat → Nat) (a0 r1 r2 : Nat) (rw : Nat → Int32) (bg : Int32) (sx ro : Nat) (ln : Int32) (wz : Int64) (G : List Nat) (st sl : Nat → Int32) (L : Nat → Nat → Int32) (S : pz_S) (fa : Nat → Int32) (wy : Nat → Int64) (re : Nat → Int32) (ly dp : Nat) (me cm : Int32) (T : pz_S) (fk : Nat → Int32) (wk : Nat → Int64) (rk : Nat → Int32) (lk dk : Nat) (ck : Int32) (sa gl : Nat) (len e9 f9 x ix o jj : Nat) (cb : Bool) (TB : pz_S) : wz_G → Prop := fun w => ∃ (G' : List Nat) (st' sl' : Nat → Int32) (L' : Nat → Nat → Int32) (T' : pz_S) (fk' : Nat → Int32) (wk' : Nat → Int64) (rk' : Nat → Int32), w = [se_W q as9 n (am 0) (ag 0) r1 r2 (ak 0) (pz_fact n) rw bg sx ro ln wz, bl_W q ah (am 0) (ag 0) 0 (pz_fact n) fa wy re S.1.length ly dp me cm, bl_W q ak (am 0) (ag 0) 6 (pz_fact n) fk' wk' rk' T'.1.length lk dk me ck, gq_W q ag (am 0) (pz_fact n) (2 ^ b) (32 - b) rl st' sl' G'.length, wz_rows 12 rl (fun i9 => .inl (q.1, pz_fact n, .inl (L' i9))), mv_W q am n k rt fo, wz_rows 12 rt (fun i9 => .inl (q.1, 8, .inl (M i9)))] ∧ (∃ Nw, G' = G ++ Nw) ∧ gq_ok n a0 b k sg tu G' st' sl' L' ∧ (bl_ok (pz_fact n) G' S fa wy re ∧ bl_ok (pz_fact n) G' T' fk' wk' rk' ∧ (∀ c d, T.2.1 c = some d → T'.2.1 c = some d) ∧ (∃ Nw, T'.1 = T.1 ++ Nw) ∧ (∀ c e, T'.2.1 c = some e → e ≤ len)) ∧ pz_ld (bl_s n k 0 sg tu od me) (bl_s n k 6 sg tu od me) sa gl len lk dk S TB jj T' ∧ ∀ y, y ∈ pz_tm (bl_g n 6 sg tu o) x (bl_mt me od o) → S.2.1 y = some f9 → T'.2.1 y ≠ none
set_option maxHeartbeats 4000000 in
set_option maxRecDepth 100000 in
/-- what leads to a state by a move, and lies nearer to the start -/
theorem c_S_leadBackFrom (l : Launch) (D : va_G) (q : wz_Q) (as9 ah ak ag am : Nat → Nat) (n b k : Nat) (rl rt : Nat → Nat) (fo : Nat → Int32) (M : Nat → Nat → Int32) (sg tu : Nat → Nat → Nat) (od : Nat → Nat) (a0 r1 r2 : Nat) (rw : Nat → Int32) (bg : Int32) (sx ro : Nat) (ln : Int32) (wz : Int64) (G : List Nat) (st sl : Nat → Int32) (L : Nat → Nat → Int32) (S : pz_S) (fa : Nat → Int32) (wy : Nat → Int64) (re : Nat → Int32) (ly dp : Nat) (me cm : Int32) (T : pz_S) (fk : Nat → Int32) (wk : Nat → Int64) (rk : Nat → Int32) (lk dk : Nat) (ck : Int32) (sa gl : Nat) (len e9 f9 x ix o jj : Nat) (cb : Bool) (TB : pz_S) (hn : n ≤ 8) (hb0 : 0 < b) (hb30 : b ≤ 30) (hM : pz_fact n < 2 ^ b) (hk : k ≤ 6) (hmv : mv_ok n k fo M sg tu od) (hok : gq_ok n a0 b k sg tu G st sl L) (hblS : bl_ok (pz_fact n) G S fa wy re) (hblT : bl_ok (pz_fact n) G T fk wk rk) (hrv : ∀ u v, pz_cnt v (bl_s n k 0 sg tu od me u) = pz_cnt u (bl_s n k 6 sg tu od me v)) (hbS : pz_ball (bl_s n k 0 sg tu od me) sa ly dp cb S) (hdS : dp ≤ ly) (hdist : pz_dist (bl_s n k 0 sg tu od me) sa gl len) (hle : ∀ c e, T.2.1 c = some e → e ≤ len) (hlen : len < 2 ^ 20) (hld : pz_ld (bl_s n k 0 sg tu od me) (bl_s n k 6 sg tu od me) sa gl len lk dk S TB jj T) (hjj : jj ≤ T.1.length) (ho : o < k) (hix : G[ix]? = some x) (hTx : T.2.1 x = some e9) (hSx : S.2.1 x = some (f9 + 1)) (hfe : f9 + 1 + e9 = len) (hdk9 : dk ≤ e9) : wz_Mv l y_S_leadBackFrom ws_S_leadBackFrom ({ frames := 3, cells := 0, slots := 0, locals := 72 } : Room) D q ([.ref (as9 0), .int (nI ix), .int (nI o), .ref (ah 0)] : List Value) [se_W q as9 n (am 0) (ag 0) r1 r2 (ak 0) (pz_fact n) rw bg sx ro ln wz, bl_W q ah (am 0) (ag 0) 0 (pz_fact n) fa wy re S.1.length ly dp me cm, bl_W q ak (am 0) (ag 0) 6 (pz_fact n) fk wk rk T.1.length lk dk me ck, gq_W q ag (am 0) (pz_fact n) (2 ^ b) (32 - b) rl st sl G.length, wz_rows 12 rl (fun i9 => .inl (q.1, pz_fact n, .inl (L i9))), mv_W q am n k rt fo, wz_rows 12 rt (fun i9 => .inl (q.1, 8, .inl (M i9)))] (po_S_leadBackFrom q as9 ah ak ag am n b k rl rt fo M sg tu od a0 r1 r2 rw bg sx ro ln wz G st sl L S fa wy re ly dp me cm T fk wk rk lk dk ck sa gl len e9 f9 x ix o jj cb TB) 0 0 := by
  intro sz9
  refine wz_enter (cc := b_S_leadBackFrom) (maxL := 8) (ret := none) (Qc := fun A => (va_Qv (po_S_leadBackFrom q as9 ah ak ag am n b k rl rt fo M sg tu od a0 r1 r2 rw bg sx ro ln wz G st sl L S fa wy re ly dp me cm T fk wk rk lk dk ck sa gl len e9 f9 x ix o jj cb TB) (wz_At D q A) A)) (by decide) (Nat.le_of_ble_eq_true rfl) ?_
  intro p e s m below meth c A ls C hP hD hS hl
  obtain ⟨hx, hb, hr, hml, hlocks, hown, hts, hN, hK, hA, hnm⟩ := C
  have hown : s.vm.findClass "TwoEndSearch$Search" = some m.cls := hown
  have hl : lv_has ls 8 [(0, .ref (as9 0)), (1, .int (nI ix)), (2, .int (nI o)), (3, .ref (ah 0))] := hl
  have hfl := pz_fact_le hn
  have hGl := gq_len hok
  have hSl := bl_len hblS
  have hlyS := hbS.2.1
  have hltS : ∀ x e, S.2.1 x = some e → e < 2 ^ 30 := pz_ball_lt hbS (by omega)
  have hixl := (List.getElem?_eq_some_iff.mp hix).1
  have hmt := bl_mt_le (me := me) hmv ho
  have huw := bl_way hk (Or.inr rfl) ho
  refine lv_aload_n hx hb d_S_leadBackFrom_0 rfl (lv_at hl 0 rfl) ?_
  refine wz_get (v := .ref (am 0)) (T := T_S) (N := 12) hx hb hts i_S hown hK hP 0 0 rfl rfl rfl 1 (by decide) (hts _ kw_262) rfl rfl d_S_leadBackFrom_1 ?_
  refine lv_aload_n hx hb d_S_leadBackFrom_4 rfl (lv_at hl 0 rfl) ?_
  refine wz_get (v := .ref (ak 0)) (T := T_S) (N := 12) hx hb hts i_S hown hK hP 0 0 rfl rfl rfl 5 (by decide) (hts _ kw_266) rfl rfl d_S_leadBackFrom_5 ?_
  refine wz_getN (v := .int me) (T := T_B) (N := 11) hx hb hts i_B hown hK hP 2 0 rfl rfl rfl 9 (by decide) (hN _ (List.mem_of_getElem? (i := 13) rfl)) rfl rfl d_S_leadBackFrom_8 ?_
  refine lv_iload_n hx hb d_S_leadBackFrom_11 rfl (lv_at hl 2 rfl) ?_
  have hQ := wz_split (n := 7) (gc := [mv_W q am n k rt fo]) (gr := [se_W q as9 n (am 0) (ag 0) r1 r2 (ak 0) (pz_fact n) rw bg sx ro ln wz, bl_W q ah (am 0) (ag 0) 0 (pz_fact n) fa wy re S.1.length ly dp me cm, bl_W q ak (am 0) (ag 0) 6 (pz_fact n) fk wk rk T.1.length lk dk me ck, gq_W q ag (am 0) (pz_fact n) (2 ^ b) (32 - b) rl st sl G.length, wz_rows 12 rl (fun i9 => .inl (q.1, pz_fact n, .inl (L i9))), wz_rows 12 rt (fun i9 => .inl (q.1, 8, .inl (M i9)))]) [5] [0, 1, 2, 3, 4, 6] rfl (by decide) rfl rfl hP hD
  refine wz_calli (va_runV (As := [.int me, .int (nI o)]) (rest := []) ⟨hx, hb, hml, hown, hts⟩ (c_M_mostTimes l D q am n k rt fo me o (by omega) _) (cwV 2 hts (wz_goodV kw_381 kw_360 kw_361 kw_32 kw_362) rfl rfl rfl (by decide +kernel) ⟨Nat.le_of_ble_eq_true rfl, Nat.le_of_ble_eq_true rfl⟩) (wz_preV (gi := 0) (k := 0) hN hK hQ wz_L_ok rfl rfl rfl) rfl rfl hl.1 rfl (lv_room (Nat.le_of_ble_eq_true rfl)) d_S_leadBackFrom_12 ⟨Nat.le_of_ble_eq_true rfl, Nat.le_of_ble_eq_true rfl⟩) hQ hS hA (fun v_12 gx H locs hp hP hD hS => ?_)
  obtain ⟨rfl, rfl⟩ := hp
  obtain ⟨hP, hD⟩ := wz_ord (n := 7) (gs' := [se_W q as9 n (am 0) (ag 0) r1 r2 (ak 0) (pz_fact n) rw bg sx ro ln wz, bl_W q ah (am 0) (ag 0) 0 (pz_fact n) fa wy re S.1.length ly dp me cm, bl_W q ak (am 0) (ag 0) 6 (pz_fact n) fk wk rk T.1.length lk dk me ck, gq_W q ag (am 0) (pz_fact n) (2 ^ b) (32 - b) rl st sl G.length, wz_rows 12 rl (fun i9 => .inl (q.1, pz_fact n, .inl (L i9))), mv_W q am n k rt fo, wz_rows 12 rt (fun i9 => .inl (q.1, 8, .inl (M i9)))]) [1, 2, 3, 4, 5, 0, 6] rfl (by decide) rfl hP hD
  refine wz_topi (y := nI (bl_mt me od o)) (bl_mt_eq hmv ho) ?_
  refine lv_istore (lv' := [(4, .int (nI (bl_mt me od o))), (0, .ref (as9 0)), (1, .int (nI ix)), (2, .int (nI o)), (3, .ref (ah 0))]) hx hb d_S_leadBackFrom_15 hl (by decide) rfl (fun ls hl => ?_)
  refine lv_aload_n hx hb d_S_leadBackFrom_17 rfl (lv_at hl 4 rfl) ?_
  refine wz_getN (v := .ref (ah 1)) (T := T_B) (N := 11) hx hb hts i_B hown hK hP 1 0 rfl rfl rfl 3 (by decide) (hN _ (List.mem_of_getElem? (i := 6) rfl)) rfl rfl d_S_leadBackFrom_18 ?_
  refine lv_iload_n hx hb d_S_leadBackFrom_21 rfl (lv_at hl 2 rfl) ?_
  refine wz_iald hx hb hK hP 1 1 (j := ix) rfl rfl (by omega) (by omega) d_S_leadBackFrom_22 ?_
  refine wz_topi (y := nI (f9 + 1)) ((hblS.2.1 ix x hix).1.trans (by rw [hSx]; rfl)) ?_
  refine lv_iconst (v := nI 1) hx hb d_S_leadBackFrom_23 (by decide) ?_
  refine lv_isub hx hb d_S_leadBackFrom_24 ?_
  refine wz_topi (y := nI f9) (show _ = nI f9 from pk_sub (a := f9 + 1) (b := 1) (by omega)) ?_
  refine lv_istore (lv' := [(5, .int (nI f9)), (4, .int (nI (bl_mt me od o))), (0, .ref (as9 0)), (1, .int (nI ix)), (2, .int (nI o)), (3, .ref (ah 0))]) hx hb d_S_leadBackFrom_25 hl (by decide) rfl (fun ls hl => ?_)
  refine lv_iload_n hx hb d_S_leadBackFrom_27 rfl (lv_at hl 3 rfl) ?_
  refine lv_istore (lv' := [(6, .int (nI ix)), (5, .int (nI f9)), (4, .int (nI (bl_mt me od o))), (0, .ref (as9 0)), (1, .int (nI ix)), (2, .int (nI o)), (3, .ref (ah 0))]) hx hb d_S_leadBackFrom_28 hl (by decide) rfl (fun ls hl => ?_)
  refine lv_iconst (v := nI 1) hx hb d_S_leadBackFrom_30 (by decide) ?_
  refine lv_istore (lv' := [(7, .int (nI 1)), (6, .int (nI ix)), (5, .int (nI f9)), (4, .int (nI (bl_mt me od o))), (0, .ref (as9 0)), (1, .int (nI ix)), (2, .int (nI o)), (3, .ref (ah 0))]) hx hb d_S_leadBackFrom_31 hl (by decide) rfl (fun ls hl => ?_)
  have loop : ∀ (d : Nat) (t j : Nat) (G1 : List Nat) (st1 sl1 : Nat → Int32) (L1 : Nat → Nat → Int32) (T1 : pz_S) (fk1 : Nat → Int32) (wk1 : Nat → Int64) (rk1 : Nat → Int32), t ≤ bl_mt me od o → bl_mt me od o + 1 ≤ t + d → G1[j]? = some (pz_it (bl_g n 6 sg tu o) t x) → (∃ Nw, G1 = G ++ Nw) → gq_ok n a0 b k sg tu G1 st1 sl1 L1 → bl_ok (pz_fact n) G1 S fa wy re → bl_ok (pz_fact n) G1 T1 fk1 wk1 rk1 → (∀ c d, T.2.1 c = some d → T1.2.1 c = some d) → (∃ Nw, T1.1 = T.1 ++ Nw) → (∀ c e, T1.2.1 c = some e → e ≤ len) → pz_ld (bl_s n k 0 sg tu od me) (bl_s n k 6 sg tu od me) sa gl len lk dk S TB jj T1 → (∀ y, y ∈ pz_tm (bl_g n 6 sg tu o) x t → S.2.1 y = some f9 → T1.2.1 y ≠ none) → ∀ (H : Heap) (locs : List Loc) (ls : Array Slot), va_P D vwCl ([se_W q as9 n (am 0) (ag 0) r1 r2 (ak 0) (pz_fact n) rw bg sx ro ln wz, bl_W q ah (am 0) (ag 0) 0 (pz_fact n) fa wy re S.1.length ly dp me cm, bl_W q ak (am 0) (ag 0) 6 (pz_fact n) fk1 wk1 rk1 T1.1.length lk dk me ck, gq_W q ag (am 0) (pz_fact n) (2 ^ b) (32 - b) rl st1 sl1 G1.length, wz_rows 12 rl (fun i9 => .inl (q.1, pz_fact n, .inl (L1 i9))), mv_W q am n k rt fo, wz_rows 12 rt (fun i9 => .inl (q.1, 8, .inl (M i9)))] : wz_G).flatten H → va_D A ([se_W q as9 n (am 0) (ag 0) r1 r2 (ak 0) (pz_fact n) rw bg sx ro ln wz, bl_W q ah (am 0) (ag 0) 0 (pz_fact n) fa wy re S.1.length ly dp me cm, bl_W q ak (am 0) (ag 0) 6 (pz_fact n) fk1 wk1 rk1 T1.1.length lk dk me ck, gq_W q ag (am 0) (pz_fact n) (2 ^ b) (32 - b) rl st1 sl1 G1.length, wz_rows 12 rl (fun i9 => .inl (q.1, pz_fact n, .inl (L1 i9))), mv_W q am n k rt fo, wz_rows 12 rt (fun i9 => .inl (q.1, 8, .inl (M i9)))] : wz_G).flatten → va_S A s.heap H locs → lv_has ls 8 [(0, .ref (as9 0)), (1, .int (nI ix)), (2, .int (nI o)), (3, .ref (ah 0)), (4, .int (nI (bl_mt me od o))), (5, .int (nI f9)), (6, .int (nI j)), (7, .int (nI (t + 1)))] → W p l e ({ frames := 3, cells := 0, slots := 0, locals := 72 } : Room) s m ([.ref (as9 0), .int (nI ix), .int (nI o), .ref (ah 0)] : List Value).toArray below meth c H locs 0 0 (MQ below (va_Qv (po_S_leadBackFrom q as9 ah ak ag am n b k rl rt fo M sg tu od a0 r1 r2 rw bg sx ro ln wz G st sl L S fa wy re ly dp me cm T fk wk rk lk dk ck sa gl len e9 f9 x ix o jj cb TB) (wz_At D q A) A) ([.ref (as9 0), .int (nI ix), .int (nI o), .ref (ah 0)] : List Value).toArray s 0 0 A) (F0 m 33 ls []) := by
    intro d
    induction d with
    | zero =>
      intro t j G1 st1 sl1 L1 T1 fk1 wk1 rk1 ht hd hj hp1 hok1 hS1 hT1 hkeep hpre hle1 hld1 hall
      omega
    | succ d ih =>
      intro t j G1 st1 sl1 L1 T1 fk1 wk1 rk1 ht hd hj hp1 hok1 hS1 hT1 hkeep hpre hle1 hld1 hall H locs ls hP hD hS hl
      refine lv_iload hx hb d_S_leadBackFrom_33 (lv_at hl 7 rfl) ?_
      refine lv_iload hx hb d_S_leadBackFrom_35 (lv_at hl 4 rfl) ?_
      refine wz_gt (tgt := 107) hx hb d_S_leadBackFrom_37 (by decide) (by omega) (by omega) (fun hc => ?_) (fun hc => ?_)
      · skip
        have hte : t = bl_mt me od o := by omega
        subst hte
        exact wz_vret hx hb hr hlocks hK hP hD hS d_S_leadBackFrom_107 ⟨G1, st1, sl1, L1, T1, fk1, wk1, rk1, rfl, hp1, hok1, ⟨hS1, hT1, hkeep, hpre, hle1⟩, hld1, hall⟩
      · skip
        refine lv_aload_n hx hb d_S_leadBackFrom_40 rfl (lv_at hl 0 rfl) ?_
        refine wz_get (v := .ref (ag 0)) (T := T_S) (N := 12) hx hb hts i_S hown hK hP 0 0 rfl rfl rfl 2 (by decide) (hts _ kw_263) rfl rfl d_S_leadBackFrom_41 ?_
        refine lv_iload_n hx hb d_S_leadBackFrom_44 rfl (lv_at hl 2 rfl) ?_
        refine lv_bipush (v := nI 6) hx hb d_S_leadBackFrom_45 (by decide) ?_
        refine lv_iadd hx hb d_S_leadBackFrom_47 ?_
        refine wz_topi (y := nI (6 + o)) ((nI_add _ _).trans (congrArg nI (Nat.add_comm _ _))) ?_
        refine lv_iload hx hb d_S_leadBackFrom_48 (lv_at hl 6 rfl) ?_
        have hQ := wz_split (n := 7) (gc := [gq_W q ag (am 0) (pz_fact n) (2 ^ b) (32 - b) rl st1 sl1 G1.length, wz_rows 12 rl (fun i9 => .inl (q.1, pz_fact n, .inl (L1 i9))), mv_W q am n k rt fo, wz_rows 12 rt (fun i9 => .inl (q.1, 8, .inl (M i9)))]) (gr := [se_W q as9 n (am 0) (ag 0) r1 r2 (ak 0) (pz_fact n) rw bg sx ro ln wz, bl_W q ah (am 0) (ag 0) 0 (pz_fact n) fa wy re S.1.length ly dp me cm, bl_W q ak (am 0) (ag 0) 6 (pz_fact n) fk1 wk1 rk1 T1.1.length lk dk me ck]) [3, 4, 5, 6] [0, 1, 2] rfl (by decide) rfl rfl hP hD
        refine wz_calli (va_runV (As := [.int (nI (6 + o)), .int (nI j)]) (rest := []) ⟨hx, hb, hml, hown, hts⟩ (c_G_follow l D q ag am n b k rl rt fo st1 sl1 L1 sg tu G1 M od a0 (6 + o) j (pz_it (bl_g n 6 sg tu o) t x) hn hb0 hb30 hM hk hok1 hmv huw hj _) (cwV 2 hts (wz_goodV kw_382 kw_364 kw_365 kw_35 kw_366) rfl rfl rfl (by decide +kernel) ⟨Nat.le_of_ble_eq_true rfl, Nat.le_of_ble_eq_true rfl⟩) (wz_preV (gi := 0) (k := 0) hN hK hQ wz_L_ok rfl rfl rfl) rfl rfl hl.1 rfl (lv_room (Nat.le_of_ble_eq_true rfl)) d_S_leadBackFrom_50 ⟨Nat.le_of_ble_eq_true rfl, Nat.le_of_ble_eq_true rfl⟩) hQ hS hA (fun v_50 gx H locs hp hP hD hS => ?_)
        obtain ⟨G2, st2, sl2, L2, c9, j2, rfl, rfl, rfl, hj2, hNw2, hok2⟩ := hp
        obtain ⟨hP, hD⟩ := wz_ord (n := 7) (gs' := [se_W q as9 n (am 0) (ag 0) r1 r2 (ak 0) (pz_fact n) rw bg sx ro ln wz, bl_W q ah (am 0) (ag 0) 0 (pz_fact n) fa wy re S.1.length ly dp me cm, bl_W q ak (am 0) (ag 0) 6 (pz_fact n) fk1 wk1 rk1 T1.1.length lk dk me ck, gq_W q ag (am 0) (pz_fact n) (2 ^ b) (32 - b) rl st2 sl2 G2.length, wz_rows 12 rl (fun i9 => .inl (q.1, pz_fact n, .inl (L2 i9))), mv_W q am n k rt fo, wz_rows 12 rt (fun i9 => .inl (q.1, 8, .inl (M i9)))]) [4, 5, 6, 0, 1, 2, 3] rfl (by decide) rfl hP hD
        obtain ⟨Na, hNa⟩ := hp1
        obtain ⟨Nb, hNb⟩ := hNw2
        have hj2 : G2[j2]? = some (pz_it (bl_g n 6 sg tu o) (t + 1) x) := hj2
        have hG2l := gq_len hok2
        have hS2 := bl_more hS1 ⟨Nb, hNb⟩ hok2.1 hG2l
        have hT2 := bl_more hT1 ⟨Nb, hNb⟩ hok2.1 hG2l
        have hj2l := (List.getElem?_eq_some_iff.mp hj2).1
        have hix2 : G2[ix]? = some x := by rw [hNb, hNa, List.append_assoc, List.getElem?_append_left hixl]; exact hix
        have hix2l := (List.getElem?_eq_some_iff.mp hix2).1
        have hyr : pz_it (bl_g n 6 sg tu o) (t + 1) x ∈ bl_s n k 6 sg tu od me x := pz_st_mem.mpr ⟨o, t + 1, ho, by omega, by omega, rfl⟩
        obtain ⟨Np, hNp⟩ := hpre
        have hTx1 := hkeep x e9 hTx
        have hone := pz_ld_one hrv hbS hdist hld1 (by rw [hNp, List.length_append]; omega) hTx1 hdk9 hfe hyr
        have htm : pz_tm (bl_g n 6 sg tu o) x (t + 1) = pz_tm (bl_g n 6 sg tu o) x t ++ [pz_it (bl_g n 6 sg tu o) (t + 1) x] := rfl
        have hlt1 : ∀ c e, T1.2.1 c = some e → e < 2 ^ 30 := fun c e h9 => by have := hle1 c e h9; omega
        generalize hcd : pz_it (bl_g n 6 sg tu o) (t + 1) x = cd at hj2 hyr hone htm
        refine lv_istore (lv' := [(6, .int (nI j2)), (0, .ref (as9 0)), (1, .int (nI ix)), (2, .int (nI o)), (3, .ref (ah 0)), (4, .int (nI (bl_mt me od o))), (5, .int (nI f9)), (7, .int (nI (t + 1)))]) hx hb d_S_leadBackFrom_53 hl (by decide) rfl (fun ls hl => ?_)
        refine lv_aload_n hx hb d_S_leadBackFrom_55 rfl (lv_at hl 4 rfl) ?_
        refine wz_getN (v := .ref (ah 1)) (T := T_B) (N := 11) hx hb hts i_B hown hK hP 1 0 rfl rfl rfl 3 (by decide) (hN _ (List.mem_of_getElem? (i := 6) rfl)) rfl rfl d_S_leadBackFrom_56 ?_
        refine lv_iload hx hb d_S_leadBackFrom_59 (lv_at hl 0 rfl) ?_
        refine wz_iald hx hb hK hP 1 1 (j := j2) rfl rfl (by omega) (by omega) d_S_leadBackFrom_61 ?_
        refine wz_topi (y := (bl_fo (S.2.1 cd))) (hS2.2.1 j2 cd hj2).1 ?_
        refine lv_iload hx hb d_S_leadBackFrom_62 (lv_at hl 6 rfl) ?_
        refine lv_icmp_ne (tgt := 101) hx hb d_S_leadBackFrom_64 (by decide) (fun hc2 => ?_) (fun hc2 => ?_)
        · skip
          refine lv_iinc (v := nI ((t + 1) + 1)) (lv' := [(7, .int (nI ((t + 1) + 1))), (6, .int (nI j2)), (0, .ref (as9 0)), (1, .int (nI ix)), (2, .int (nI o)), (3, .ref (ah 0)), (4, .int (nI (bl_mt me od o))), (5, .int (nI f9))]) hx hb d_S_leadBackFrom_101 hl (k := 7) rfl (nI_1 (t + 1)) (by decide) rfl (fun ls hl => ?_)
          refine lv_goto (tgt := 33) hx hb d_S_leadBackFrom_104 (by decide) ?_
          exact ih (t + 1) j2 G2 st2 sl2 L2 T1 fk1 wk1 rk1 (by omega) (by omega) (by rw [hcd]; exact hj2) ⟨Na ++ Nb, by rw [hNb, hNa, List.append_assoc]⟩ hok2 hS2 hT2 hkeep ⟨Np, hNp⟩ hle1 hld1 (fun y hy hSy => by
            rw [htm] at hy
            rcases List.mem_append.mp hy with q | q
            · exact hall y q hSy
            · rw [List.mem_singleton.mp q] at hSy ⊢
              exact absurd ((bl_fo_s (fun e he => hltS _ e he) (by omega)).mpr hSy) hc2) _ _ _ hP hD hS (lv_sub hl [2, 3, 4, 5, 6, 7, 1, 0] rfl)
        · skip
          have hSy := (bl_fo_s (fun e he => hltS cd e he) (by omega)).mp hc2
          have hld2 : pz_lead S f9 (e9 + 1) T1 cd = pz_take (e9 + 1) T1 cd := if_pos hSy
          rw [hld2] at hone
          refine lv_aload_n hx hb d_S_leadBackFrom_67 rfl (lv_at hl 1 rfl) ?_
          refine wz_get (v := .ref (ak 0)) (T := T_S) (N := 12) hx hb hts i_S hown hK hP 0 0 rfl rfl rfl 5 (by decide) (hts _ kw_266) rfl rfl d_S_leadBackFrom_68 ?_
          refine wz_getN (v := .ref (ak 1)) (T := T_B) (N := 11) hx hb hts i_B hown hK hP 2 0 rfl rfl rfl 3 (by decide) (hN _ (List.mem_of_getElem? (i := 6) rfl)) rfl rfl d_S_leadBackFrom_71 ?_
          refine lv_iload hx hb d_S_leadBackFrom_74 (lv_at hl 0 rfl) ?_
          refine wz_iald hx hb hK hP 2 1 (j := j2) rfl rfl (by omega) (by omega) d_S_leadBackFrom_76 ?_
          refine wz_topi (y := (bl_fo (T1.2.1 cd))) (hT2.2.1 j2 cd hj2).1 ?_
          refine lv_iconst (v := (-1)) hx hb d_S_leadBackFrom_77 (by decide) ?_
          refine lv_icmp_ne (tgt := 101) hx hb d_S_leadBackFrom_78 (by decide) (fun hc3 => ?_) (fun hc3 => ?_)
          · skip
            have hkn : T1.2.1 cd ≠ none := fun q => hc3 (by rw [q]; rfl)
            refine lv_iinc (v := nI ((t + 1) + 1)) (lv' := [(7, .int (nI ((t + 1) + 1))), (6, .int (nI j2)), (0, .ref (as9 0)), (1, .int (nI ix)), (2, .int (nI o)), (3, .ref (ah 0)), (4, .int (nI (bl_mt me od o))), (5, .int (nI f9))]) hx hb d_S_leadBackFrom_101 hl (k := 7) rfl (nI_1 (t + 1)) (by decide) rfl (fun ls hl => ?_)
            refine lv_goto (tgt := 33) hx hb d_S_leadBackFrom_104 (by decide) ?_
            exact ih (t + 1) j2 G2 st2 sl2 L2 T1 fk1 wk1 rk1 (by omega) (by omega) (by rw [hcd]; exact hj2) ⟨Na ++ Nb, by rw [hNb, hNa, List.append_assoc]⟩ hok2 hS2 hT2 hkeep ⟨Np, hNp⟩ hle1 hld1 (fun y hy hSy => by
              rw [htm] at hy
              rcases List.mem_append.mp hy with q | q
              · exact hall y q hSy
              · rw [List.mem_singleton.mp q] at hSy ⊢
                exact hkn) _ _ _ hP hD hS (lv_sub hl [2, 3, 4, 5, 6, 7, 1, 0] rfl)
          · skip
            have hnone : T1.2.1 cd = none := (bl_fo_n (fun e he => hlt1 cd e he)).mp hc3
            have hnew := bl_new hT2 (List.mem_of_getElem? hj2) hnone
            refine lv_aload_n hx hb d_S_leadBackFrom_81 rfl (lv_at hl 1 rfl) ?_
            refine wz_get (v := .ref (ak 0)) (T := T_S) (N := 12) hx hb hts i_S hown hK hP 0 0 rfl rfl rfl 5 (by decide) (hts _ kw_266) rfl rfl d_S_leadBackFrom_82 ?_
            refine lv_iload hx hb d_S_leadBackFrom_85 (lv_at hl 0 rfl) ?_
            refine lv_aload_n hx hb d_S_leadBackFrom_87 rfl (lv_at hl 1 rfl) ?_
            refine wz_get (v := .ref (ak 0)) (T := T_S) (N := 12) hx hb hts i_S hown hK hP 0 0 rfl rfl rfl 5 (by decide) (hts _ kw_266) rfl rfl d_S_leadBackFrom_88 ?_
            refine wz_getN (v := .ref (ak 1)) (T := T_B) (N := 11) hx hb hts i_B hown hK hP 2 0 rfl rfl rfl 3 (by decide) (hN _ (List.mem_of_getElem? (i := 6) rfl)) rfl rfl d_S_leadBackFrom_91 ?_
            refine lv_iload_n hx hb d_S_leadBackFrom_94 rfl (lv_at hl 2 rfl) ?_
            refine wz_iald hx hb hK hP 2 1 (j := ix) rfl rfl (by omega) (by omega) d_S_leadBackFrom_95 ?_
            refine wz_topi (y := nI e9) ((hT2.2.1 ix x hix2).1.trans (by rw [hTx1]; rfl)) ?_
            refine lv_iconst (v := nI 1) hx hb d_S_leadBackFrom_96 (by decide) ?_
            refine lv_iadd hx hb d_S_leadBackFrom_97 ?_
            refine wz_topi (y := nI (e9 + 1)) (nI_add e9 1) ?_
            have hQ := wz_split (n := 7) (gc := [bl_W q ak (am 0) (ag 0) 6 (pz_fact n) fk1 wk1 rk1 T1.1.length lk dk me ck]) (gr := [se_W q as9 n (am 0) (ag 0) r1 r2 (ak 0) (pz_fact n) rw bg sx ro ln wz, bl_W q ah (am 0) (ag 0) 0 (pz_fact n) fa wy re S.1.length ly dp me cm, gq_W q ag (am 0) (pz_fact n) (2 ^ b) (32 - b) rl st2 sl2 G2.length, wz_rows 12 rl (fun i9 => .inl (q.1, pz_fact n, .inl (L2 i9))), mv_W q am n k rt fo, wz_rows 12 rt (fun i9 => .inl (q.1, 8, .inl (M i9)))]) [2] [0, 1, 3, 4, 5, 6] rfl (by decide) rfl rfl hP hD
            refine wz_callv (va_runV (As := [.int (nI j2), .int (nI (e9 + 1))]) (rest := []) ⟨hx, hb, hml, hown, hts⟩ (c_B_take l D q ak (am 0) (ag 0) 6 (pz_fact n) fk1 wk1 rk1 T1.1.length lk dk me ck j2 (e9 + 1) (by omega) (by omega) (by omega) _) (cwV 2 hts (wz_goodV kw_383 kw_324 kw_325 kw_36 kw_326) rfl rfl rfl (by decide +kernel) ⟨Nat.le_of_ble_eq_true rfl, Nat.le_of_ble_eq_true rfl⟩) (wz_preV (gi := 0) (k := 0) hN hK hQ wz_L_ok rfl rfl rfl) rfl rfl hl.1 rfl (lv_room (Nat.le_of_ble_eq_true rfl)) d_S_leadBackFrom_98 ⟨Nat.le_of_ble_eq_true rfl, Nat.le_of_ble_eq_true rfl⟩) hQ hS hA (fun gx H locs hp hP hD hS => ?_)
            have hp : gx = _ := hp
            subst hp
            obtain ⟨hP, hD⟩ := wz_ord (n := 7) (gs' := [se_W q as9 n (am 0) (ag 0) r1 r2 (ak 0) (pz_fact n) rw bg sx ro ln wz, bl_W q ah (am 0) (ag 0) 0 (pz_fact n) fa wy re S.1.length ly dp me cm, bl_W q ak (am 0) (ag 0) 6 (pz_fact n) (upd fk1 j2 (nI (e9 + 1))) (vp_updL wk1 j2 0) (upd rk1 T1.1.length (nI j2)) (T1.1.length + 1) lk dk me ck, gq_W q ag (am 0) (pz_fact n) (2 ^ b) (32 - b) rl st2 sl2 G2.length, wz_rows 12 rl (fun i9 => .inl (q.1, pz_fact n, .inl (L2 i9))), mv_W q am n k rt fo, wz_rows 12 rt (fun i9 => .inl (q.1, 8, .inl (M i9)))]) [1, 2, 0, 3, 4, 5, 6] rfl (by decide) rfl hP hD
            have hT3 := bl_take (d := e9 + 1) hT2 hok2.1 hj2 hnone
            rw [← bl_take_len (d := e9 + 1) hnone] at hP hD
            obtain ⟨T2, hT2e⟩ : ∃ T2, T2 = pz_take (e9 + 1) T1 cd := ⟨_, rfl⟩
            rw [← hT2e] at hP hD hT3 hone
            obtain ⟨Nq, hNq⟩ := hone.2.2.2
            have hle2 : ∀ c e, T2.2.1 c = some e → e ≤ len := by
              intro c e h9
              rw [hT2e, pz_take_2] at h9
              by_cases q : c = cd ∧ T1.2.1 cd = none
              · rw [if_pos q] at h9; cases h9; omega
              · rw [if_neg q] at h9; exact hle1 c e h9
            refine lv_iinc (v := nI ((t + 1) + 1)) (lv' := [(7, .int (nI ((t + 1) + 1))), (6, .int (nI j2)), (0, .ref (as9 0)), (1, .int (nI ix)), (2, .int (nI o)), (3, .ref (ah 0)), (4, .int (nI (bl_mt me od o))), (5, .int (nI f9))]) hx hb d_S_leadBackFrom_101 hl (k := 7) rfl (nI_1 (t + 1)) (by decide) rfl (fun ls hl => ?_)
            refine lv_goto (tgt := 33) hx hb d_S_leadBackFrom_104 (by decide) ?_
            exact ih (t + 1) j2 G2 st2 sl2 L2 T2 (upd fk1 j2 (nI (e9 + 1))) (vp_updL wk1 j2 0) (upd rk1 T1.1.length (nI j2)) (by omega) (by omega) (by rw [hcd]; exact hj2) ⟨Na ++ Nb, by rw [hNb, hNa, List.append_assoc]⟩ hok2 hS2 hT3 (fun c d h9 => hone.2.2.1 c d (hkeep c d h9)) ⟨Np ++ Nq, by rw [hNq, hNp, List.append_assoc]⟩ hle2 hone.1 (fun y hy hSy9 => by
              rw [htm] at hy
              rcases List.mem_append.mp hy with q | q
              · obtain ⟨e, he⟩ := pz_mem_far hld1.1 ((hld1.1.2 y).mpr (hall y q hSy9))
                exact pz_sn (hone.2.2.1 y e he)
              · rw [List.mem_singleton.mp q]
                exact hone.2.1 hSy) _ _ _ hP hD hS (lv_sub hl [2, 3, 4, 5, 6, 7, 1, 0] rfl)
  exact loop (bl_mt me od o + 1) 0 ix G st sl L T fk wk rk (by omega) (by omega) hix ⟨[], by simp⟩ hok hblS hblT (fun _ _ h9 => h9) ⟨[], by simp⟩ hle hld (fun y hy => absurd hy List.not_mem_nil) _ _ _ hP hD hS (lv_sub hl [4, 5, 6, 7, 3, 2, 1, 0] rfl)
def po_S_leadBackToStart (q : wz_Q) (as9 ah ak ag am : Nat → Nat) (n b k : Nat) (rl rt : Nat → Nat) (fo : Nat → Int32) (M : Nat → Nat → Int32) (sg tu : Nat → Nat → Nat) (od : Nat → Nat) (a0 r1 r2 : Nat) (rw : Nat → Int32) (bg : Int32) (sx ro : Nat) (ln : Int32) (wz : Int64) (G : List Nat) (st sl : Nat → Int32) (L : Nat → Nat → Int32) (S : pz_S) (fa : Nat → Int32) (wy : Nat → Int64) (re : Nat → Int32) (ly dp : Nat) (me cm : Int32) (T : pz_S) (fk : Nat → Int32) (wk : Nat → Int64) (rk : Nat → Int32) (lk dk : Nat) (ck : Int32) (sa gl : Nat) (len i9 : Nat) (cb cc : Bool) : wz_G → Prop := fun w => ∃ (G' : List Nat) (st' sl' : Nat → Int32) (L' : Nat → Nat → Int32) (T' : pz_S) (fk' : Nat → Int32) (wk' : Nat → Int64) (rk' : Nat → Int32), w = [se_W q as9 n (am 0) (ag 0) r1 r2 (ak 0) (pz_fact n) rw bg sx ro ln wz, bl_W q ah (am 0) (ag 0) 0 (pz_fact n) fa wy re S.1.length ly dp me cm, bl_W q ak (am 0) (ag 0) 6 (pz_fact n) fk' wk' rk' T'.1.length lk dk me ck, gq_W q ag (am 0) (pz_fact n) (2 ^ b) (32 - b) rl st' sl' G'.length, wz_rows 12 rl (fun i9 => .inl (q.1, pz_fact n, .inl (L' i9))), mv_W q am n k rt fo, wz_rows 12 rt (fun i9 => .inl (q.1, 8, .inl (M i9)))] ∧ (∃ Nw, G' = G ++ Nw) ∧ gq_ok n a0 b k sg tu G' st' sl' L' ∧ (bl_ok (pz_fact n) G' S fa wy re ∧ bl_ok (pz_fact n) G' T' fk' wk' rk' ∧ (∀ c d, T.2.1 c = some d → T'.2.1 c = some d) ∧ (∃ Nw, T'.1 = T.1 ++ Nw) ∧ (∀ c e, T'.2.1 c = some e → e ≤ len)) ∧ (∀ c e1, T'.2.1 c = some e1 → pz_dist (bl_s n k 6 sg tu od me) gl c e1) ∧ ∀ x f e1, pz_dist (bl_s n k 0 sg tu od me) sa x f → pz_dist (bl_s n k 6 sg tu od me) gl x e1 → f + e1 = len → T'.2.1 x = some e1
set_option maxHeartbeats 4000000 in
set_option maxRecDepth 100000 in
/-- what lies on shortest rows comes into the ball around the goal -/
theorem c_S_leadBackToStart (l : Launch) (D : va_G) (q : wz_Q) (as9 ah ak ag am : Nat → Nat) (n b k : Nat) (rl rt : Nat → Nat) (fo : Nat → Int32) (M : Nat → Nat → Int32) (sg tu : Nat → Nat → Nat) (od : Nat → Nat) (a0 r1 r2 : Nat) (rw : Nat → Int32) (bg : Int32) (sx ro : Nat) (ln : Int32) (wz : Int64) (G : List Nat) (st sl : Nat → Int32) (L : Nat → Nat → Int32) (S : pz_S) (fa : Nat → Int32) (wy : Nat → Int64) (re : Nat → Int32) (ly dp : Nat) (me cm : Int32) (T : pz_S) (fk : Nat → Int32) (wk : Nat → Int64) (rk : Nat → Int32) (lk dk : Nat) (ck : Int32) (sa gl : Nat) (len i9 : Nat) (cb cc : Bool) (hn : n ≤ 8) (hb0 : 0 < b) (hb30 : b ≤ 30) (hM : pz_fact n < 2 ^ b) (hk : k ≤ 6) (hmv : mv_ok n k fo M sg tu od) (hok : gq_ok n a0 b k sg tu G st sl L) (hblS : bl_ok (pz_fact n) G S fa wy re) (hblT : bl_ok (pz_fact n) G T fk wk rk) (hrv : ∀ u v, pz_cnt v (bl_s n k 0 sg tu od me u) = pz_cnt u (bl_s n k 6 sg tu od me v)) (hbS : pz_ball (bl_s n k 0 sg tu od me) sa ly dp cb S) (hdS : dp ≤ ly) (hdist : pz_dist (bl_s n k 0 sg tu od me) sa gl len) (hle : ∀ c e, T.2.1 c = some e → e ≤ len) (hlen : len < 2 ^ 20) (hbT : pz_ball (bl_s n k 6 sg tu od me) gl lk dk cc T) (hln : ln = nI len) (hl9 : len = i9 + dk) (hi9 : i9 ≤ dp) : wz_Mv l y_S_leadBackToStart ws_S_leadBackToStart ({ frames := 4, cells := 0, slots := 0, locals := 99 } : Room) D q ([.ref (as9 0), .ref (ah 0)] : List Value) [se_W q as9 n (am 0) (ag 0) r1 r2 (ak 0) (pz_fact n) rw bg sx ro ln wz, bl_W q ah (am 0) (ag 0) 0 (pz_fact n) fa wy re S.1.length ly dp me cm, bl_W q ak (am 0) (ag 0) 6 (pz_fact n) fk wk rk T.1.length lk dk me ck, gq_W q ag (am 0) (pz_fact n) (2 ^ b) (32 - b) rl st sl G.length, wz_rows 12 rl (fun i9 => .inl (q.1, pz_fact n, .inl (L i9))), mv_W q am n k rt fo, wz_rows 12 rt (fun i9 => .inl (q.1, 8, .inl (M i9)))] (po_S_leadBackToStart q as9 ah ak ag am n b k rl rt fo M sg tu od a0 r1 r2 rw bg sx ro ln wz G st sl L S fa wy re ly dp me cm T fk wk rk lk dk ck sa gl len i9 cb cc) 0 0 := by
  intro sz9
  refine wz_enter (cc := b_S_leadBackToStart) (maxL := 6) (ret := none) (Qc := fun A => (va_Qv (po_S_leadBackToStart q as9 ah ak ag am n b k rl rt fo M sg tu od a0 r1 r2 rw bg sx ro ln wz G st sl L S fa wy re ly dp me cm T fk wk rk lk dk ck sa gl len i9 cb cc) (wz_At D q A) A)) (by decide) (Nat.le_of_ble_eq_true rfl) ?_
  intro p e s m below meth c A ls C hP hD hS hl
  obtain ⟨hx, hb, hr, hml, hlocks, hown, hts, hN, hK, hA, hnm⟩ := C
  have hown : s.vm.findClass "TwoEndSearch$Search" = some m.cls := hown
  have hl : lv_has ls 6 [(0, .ref (as9 0)), (1, .ref (ah 0))] := hl
  have hfl := pz_fact_le hn
  have hSl := bl_len hblS
  have hGl := gq_len hok
  have hlyS := hbS.2.1
  have hlyT := hbT.2.1
  subst hln
  have hltS : ∀ x e1, S.2.1 x = some e1 → e1 < 2 ^ 30 := pz_ball_lt hbS (by omega)
  refine lv_aload_n hx hb d_S_leadBackToStart_0 rfl (lv_at hl 0 rfl) ?_
  refine wz_get (v := .ref (ak 0)) (T := T_S) (N := 12) hx hb hts i_S hown hK hP 0 0 rfl rfl rfl 5 (by decide) (hts _ kw_266) rfl rfl d_S_leadBackToStart_1 ?_
  refine wz_getN (v := .int (nI lk)) (T := T_B) (N := 11) hx hb hts i_B hown hK hP 2 0 rfl rfl rfl 7 (by decide) (hN _ (List.mem_of_getElem? (i := 10) rfl)) rfl rfl d_S_leadBackToStart_4 ?_
  refine lv_istore_n (lv' := [(2, .int (nI lk)), (0, .ref (as9 0)), (1, .ref (ah 0))]) hx hb d_S_leadBackToStart_7 rfl hl (by decide) rfl (fun ls hl => ?_)
  have outer : ∀ (d : Nat) (t : Nat) (G1 : List Nat) (st1 sl1 : Nat → Int32) (L1 : Nat → Nat → Int32) (T1 : pz_S) (fk1 : Nat → Int32) (wk1 : Nat → Int64) (rk1 : Nat → Int32), t ≤ T1.1.length → lk ≤ t → pz_fact n + 1 ≤ t + d → (∃ Nw, G1 = G ++ Nw) → gq_ok n a0 b k sg tu G1 st1 sl1 L1 → bl_ok (pz_fact n) G1 S fa wy re → bl_ok (pz_fact n) G1 T1 fk1 wk1 rk1 → (∀ c d, T.2.1 c = some d → T1.2.1 c = some d) → (∃ Nw, T1.1 = T.1 ++ Nw) → (∀ c e1, T1.2.1 c = some e1 → e1 ≤ len) → pz_ld (bl_s n k 0 sg tu od me) (bl_s n k 6 sg tu od me) sa gl len lk dk S T t T1 → ∀ (H : Heap) (locs : List Loc) (ls : Array Slot), va_P D vwCl ([se_W q as9 n (am 0) (ag 0) r1 r2 (ak 0) (pz_fact n) rw bg sx ro (nI len) wz, bl_W q ah (am 0) (ag 0) 0 (pz_fact n) fa wy re S.1.length ly dp me cm, bl_W q ak (am 0) (ag 0) 6 (pz_fact n) fk1 wk1 rk1 T1.1.length lk dk me ck, gq_W q ag (am 0) (pz_fact n) (2 ^ b) (32 - b) rl st1 sl1 G1.length, wz_rows 12 rl (fun i9 => .inl (q.1, pz_fact n, .inl (L1 i9))), mv_W q am n k rt fo, wz_rows 12 rt (fun i9 => .inl (q.1, 8, .inl (M i9)))] : wz_G).flatten H → va_D A ([se_W q as9 n (am 0) (ag 0) r1 r2 (ak 0) (pz_fact n) rw bg sx ro (nI len) wz, bl_W q ah (am 0) (ag 0) 0 (pz_fact n) fa wy re S.1.length ly dp me cm, bl_W q ak (am 0) (ag 0) 6 (pz_fact n) fk1 wk1 rk1 T1.1.length lk dk me ck, gq_W q ag (am 0) (pz_fact n) (2 ^ b) (32 - b) rl st1 sl1 G1.length, wz_rows 12 rl (fun i9 => .inl (q.1, pz_fact n, .inl (L1 i9))), mv_W q am n k rt fo, wz_rows 12 rt (fun i9 => .inl (q.1, 8, .inl (M i9)))] : wz_G).flatten → va_S A s.heap H locs → lv_has ls 6 [(0, .ref (as9 0)), (1, .ref (ah 0)), (2, .int (nI t))] → W p l e ({ frames := 4, cells := 0, slots := 0, locals := 99 } : Room) s m ([.ref (as9 0), .ref (ah 0)] : List Value).toArray below meth c H locs 0 0 (MQ below (va_Qv (po_S_leadBackToStart q as9 ah ak ag am n b k rl rt fo M sg tu od a0 r1 r2 rw bg sx ro (nI len) wz G st sl L S fa wy re ly dp me cm T fk wk rk lk dk ck sa gl len i9 cb cc) (wz_At D q A) A) ([.ref (as9 0), .ref (ah 0)] : List Value).toArray s 0 0 A) (F0 m 8 ls []) := by
    intro d
    induction d with
    | zero =>
      intro t G1 st1 sl1 L1 T1 fk1 wk1 rk1 ht htl hd hp1 hok1 hS1 hT1 hkeep1 hpre1 hle1 hld1
      exfalso; have := bl_len hT1; have := gq_len hok1; omega
    | succ d ih =>
      intro t G1 st1 sl1 L1 T1 fk1 wk1 rk1 ht htl hd hp1 hok1 hS1 hT1 hkeep1 hpre1 hle1 hld1 H locs ls hP hD hS hl
      have hT1l := bl_len hT1
      have hG1l := gq_len hok1
      refine lv_iload_n hx hb d_S_leadBackToStart_8 rfl (lv_at hl 2 rfl) ?_
      refine lv_aload_n hx hb d_S_leadBackToStart_9 rfl (lv_at hl 0 rfl) ?_
      refine wz_get (v := .ref (ak 0)) (T := T_S) (N := 12) hx hb hts i_S hown hK hP 0 0 rfl rfl rfl 5 (by decide) (hts _ kw_266) rfl rfl d_S_leadBackToStart_10 ?_
      refine wz_getN (v := .int (nI T1.1.length)) (T := T_B) (N := 11) hx hb hts i_B hown hK hP 2 0 rfl rfl rfl 6 (by decide) (hN _ (List.mem_of_getElem? (i := 9) rfl)) rfl rfl d_S_leadBackToStart_13 ?_
      refine wz_ge (tgt := 105) hx hb d_S_leadBackToStart_16 (by decide) (by omega) (by omega) (fun hc => ?_) (fun hc => ?_)
      · skip
        have hte : t = T1.1.length := by omega
        subst hte
        exact wz_vret hx hb hr hlocks hK hP hD hS d_S_leadBackToStart_105 ⟨G1, st1, sl1, L1, T1, fk1, wk1, rk1, rfl, hp1, hok1, ⟨hS1, hT1, hkeep1, hpre1, hle1⟩, hld1.2.2.2.1, fun x f e1 q1 q2 q3 => pz_ld_all hrv hbS hbT hdist hl9 hi9 hld1 e1 x f q1 q2 q3⟩
      · skip
        refine lv_iload_n hx hb d_S_leadBackToStart_19 rfl (lv_at hl 2 rfl) ?_
        refine lv_aload_n hx hb d_S_leadBackToStart_20 rfl (lv_at hl 0 rfl) ?_
        refine wz_get (v := .ref (as9 1)) (T := T_S) (N := 12) hx hb hts i_S hown hK hP 0 0 rfl rfl rfl 6 (by decide) (hts _ kw_267) rfl rfl d_S_leadBackToStart_21 ?_
        refine wz_alen hx hb hK hP 0 1 (n := pz_fact n) rfl rfl d_S_leadBackToStart_24 ?_
        refine wz_ge (tgt := 105) hx hb d_S_leadBackToStart_25 (by decide) (by omega) (by omega) (fun hc2 => ?_) (fun hc2 => ?_)
        · skip
          exfalso; omega
        · skip
          obtain ⟨x, hgx⟩ : ∃ x, T1.1[t]? = some x := ⟨_, List.getElem?_eq_getElem hc⟩
          obtain ⟨ix, eix, hix⟩ := hT1.2.2.2 t x hgx
          have hixl := (List.getElem?_eq_some_iff.mp hix).1
          obtain ⟨e1, he⟩ := pz_mem_far hld1.1 (List.mem_of_getElem? hgx)
          have hel := hle1 x e1 he
          refine lv_aload_n hx hb d_S_leadBackToStart_28 rfl (lv_at hl 0 rfl) ?_
          refine wz_get (v := .ref (ak 0)) (T := T_S) (N := 12) hx hb hts i_S hown hK hP 0 0 rfl rfl rfl 5 (by decide) (hts _ kw_266) rfl rfl d_S_leadBackToStart_29 ?_
          refine wz_getN (v := .ref (ak 3)) (T := T_B) (N := 11) hx hb hts i_B hown hK hP 2 0 rfl rfl rfl 5 (by decide) (hN _ (List.mem_of_getElem? (i := 8) rfl)) rfl rfl d_S_leadBackToStart_32 ?_
          refine lv_iload_n hx hb d_S_leadBackToStart_35 rfl (lv_at hl 2 rfl) ?_
          refine wz_iald hx hb hK hP 2 3 (j := t) rfl rfl (by omega) (by omega) d_S_leadBackToStart_36 ?_
          refine wz_topi (y := nI ix) eix ?_
          refine lv_istore_n (lv' := [(3, .int (nI ix)), (0, .ref (as9 0)), (1, .ref (ah 0)), (2, .int (nI t))]) hx hb d_S_leadBackToStart_37 rfl hl (by decide) rfl (fun ls hl => ?_)
          refine lv_aload_n hx hb d_S_leadBackToStart_38 rfl (lv_at hl 1 rfl) ?_
          refine wz_get (v := .int (nI len)) (T := T_S) (N := 12) hx hb hts i_S hown hK hP 0 0 rfl rfl rfl 10 (by decide) (hts _ kw_273) rfl rfl d_S_leadBackToStart_39 ?_
          refine lv_aload_n hx hb d_S_leadBackToStart_42 rfl (lv_at hl 1 rfl) ?_
          refine wz_get (v := .ref (ak 0)) (T := T_S) (N := 12) hx hb hts i_S hown hK hP 0 0 rfl rfl rfl 5 (by decide) (hts _ kw_266) rfl rfl d_S_leadBackToStart_43 ?_
          refine wz_getN (v := .ref (ak 1)) (T := T_B) (N := 11) hx hb hts i_B hown hK hP 2 0 rfl rfl rfl 3 (by decide) (hN _ (List.mem_of_getElem? (i := 6) rfl)) rfl rfl d_S_leadBackToStart_46 ?_
          refine lv_iload_n hx hb d_S_leadBackToStart_49 rfl (lv_at hl 0 rfl) ?_
          refine wz_iald hx hb hK hP 2 1 (j := ix) rfl rfl (by omega) (by omega) d_S_leadBackToStart_50 ?_
          refine wz_topi (y := nI e1) ((hT1.2.1 ix x hix).1.trans (by rw [he]; rfl)) ?_
          refine lv_isub hx hb d_S_leadBackToStart_51 ?_
          refine wz_topi (y := nI (len - e1)) (pk_sub hel) ?_
          refine lv_istore (lv' := [(4, .int (nI (len - e1))), (3, .int (nI ix)), (0, .ref (as9 0)), (1, .ref (ah 0)), (2, .int (nI t))]) hx hb d_S_leadBackToStart_52 hl (by decide) rfl (fun ls hl => ?_)
          refine lv_iload hx hb d_S_leadBackToStart_54 (lv_at hl 0 rfl) ?_
          refine lv_if_le (tgt := 99) hx hb d_S_leadBackToStart_56 (by decide) (fun hc3 => ?_) (fun hc3 => ?_)
          · skip
            have hld1' : pz_ld (bl_s n k 0 sg tu od me) (bl_s n k 6 sg tu od me) sa gl len lk dk S T (t + 1) T1 := by
              refine ⟨hld1.1, hld1.2.1, hld1.2.2.1, hld1.2.2.2.1, hld1.2.2.2.2.1, fun i z d f y h1 h2 h3 h4 h5 h6 h7 h8 => ?_⟩
              by_cases e0 : i = t
              · subst e0
                have : z = x := Option.some.inj (h3.symm.trans hgx)
                subst this
                have : d = e1 := Option.some.inj (h4.symm.trans he)
                subst this
                exfalso
                exact absurd hc3 (nI_nle (by omega) (by omega))
              · exact hld1.2.2.2.2.2 i z d f y h1 (by omega) h3 h4 h5 h6 h7 h8
            refine lv_iinc (v := nI (t + 1)) (lv' := [(2, .int (nI (t + 1))), (4, .int (nI (len - e1))), (3, .int (nI ix)), (0, .ref (as9 0)), (1, .ref (ah 0))]) hx hb d_S_leadBackToStart_99 hl (k := 4) rfl (nI_1 t) (by decide) rfl (fun ls hl => ?_)
            refine lv_goto (tgt := 8) hx hb d_S_leadBackToStart_102 (by decide) ?_
            exact ih (t + 1) G1 st1 sl1 L1 T1 fk1 wk1 rk1 (by omega) (by omega) (by omega) hp1 hok1 hS1 hT1 hkeep1 hpre1 hle1 hld1' _ _ _ hP hD hS (lv_sub hl [3, 4, 0] rfl)
          · skip
            refine lv_aload_n hx hb d_S_leadBackToStart_59 rfl (lv_at hl 3 rfl) ?_
            refine wz_getN (v := .ref (ah 1)) (T := T_B) (N := 11) hx hb hts i_B hown hK hP 1 0 rfl rfl rfl 3 (by decide) (hN _ (List.mem_of_getElem? (i := 6) rfl)) rfl rfl d_S_leadBackToStart_60 ?_
            refine lv_iload_n hx hb d_S_leadBackToStart_63 rfl (lv_at hl 1 rfl) ?_
            refine wz_iald hx hb hK hP 1 1 (j := ix) rfl rfl (by omega) (by omega) d_S_leadBackToStart_64 ?_
            refine wz_topi (y := (bl_fo (S.2.1 x))) (hS1.2.1 ix x hix).1 ?_
            refine lv_iload hx hb d_S_leadBackToStart_65 (lv_at hl 0 rfl) ?_
            refine lv_icmp_ne (tgt := 99) hx hb d_S_leadBackToStart_67 (by decide) (fun hc4 => ?_) (fun hc4 => ?_)
            · skip
              have hld1' : pz_ld (bl_s n k 0 sg tu od me) (bl_s n k 6 sg tu od me) sa gl len lk dk S T (t + 1) T1 := by
                refine ⟨hld1.1, hld1.2.1, hld1.2.2.1, hld1.2.2.2.1, hld1.2.2.2.2.1, fun i z d f y h1 h2 h3 h4 h5 h6 h7 h8 => ?_⟩
                by_cases e0 : i = t
                · subst e0
                  have : z = x := Option.some.inj (h3.symm.trans hgx)
                  subst this
                  have : d = e1 := Option.some.inj (h4.symm.trans he)
                  subst this
                  exfalso
                  exact hc4 (by rw [h5]; show nI (f + 1) = _; congr 1; omega)
                · exact hld1.2.2.2.2.2 i z d f y h1 (by omega) h3 h4 h5 h6 h7 h8
              refine lv_iinc (v := nI (t + 1)) (lv' := [(2, .int (nI (t + 1))), (4, .int (nI (len - e1))), (3, .int (nI ix)), (0, .ref (as9 0)), (1, .ref (ah 0))]) hx hb d_S_leadBackToStart_99 hl (k := 4) rfl (nI_1 t) (by decide) rfl (fun ls hl => ?_)
              refine lv_goto (tgt := 8) hx hb d_S_leadBackToStart_102 (by decide) ?_
              exact ih (t + 1) G1 st1 sl1 L1 T1 fk1 wk1 rk1 (by omega) (by omega) (by omega) hp1 hok1 hS1 hT1 hkeep1 hpre1 hle1 hld1' _ _ _ hP hD hS (lv_sub hl [3, 4, 0] rfl)
            · skip
              have hle0 : 0 < len - e1 := by
                by_cases q : len - e1 = 0
                · rw [q] at hc3; exact absurd (by decide) hc3
                · omega
              have hSx0 := (bl_fo_s (fun e9 he9 => hltS x e9 he9) (by omega)).mp hc4
              obtain ⟨f9, hf9⟩ : ∃ f9, len - e1 = f9 + 1 := ⟨len - e1 - 1, by omega⟩
              have hSx : S.2.1 x = some (f9 + 1) := by rw [hSx0, hf9]
              have hdk9 : dk ≤ e1 := by
                cases hq : T.2.1 x with
                | none => exact Nat.le_of_lt (hld1.2.2.2.2.1 x e1 he hq)
                | some e2 =>
                  have h2 := Option.some.inj ((hkeep1 x e2 hq).symm.trans he)
                  subst h2
                  obtain ⟨Np, hNp⟩ := hpre1
                  obtain ⟨i2, hi2⟩ := List.getElem?_of_mem (pz_far_mem hbT.1.1 hq)
                  have hi2l := (List.getElem?_eq_some_iff.mp hi2).1
                  have hi2' : T1.1[i2]? = some x := by rw [hNp, List.getElem?_append_left hi2l]; exact hi2
                  have := pz_getinj hld1.1.1 hi2' hgx
                  subst this
                  exact Nat.le_of_eq (hbT.2.2.2 i2 x e2 htl hi2 hq).symm
              refine lv_iconst (v := nI 0) hx hb d_S_leadBackToStart_70 (by decide) ?_
              refine lv_istore (lv' := [(5, .int (nI 0)), (4, .int (nI (len - e1))), (3, .int (nI ix)), (0, .ref (as9 0)), (1, .ref (ah 0)), (2, .int (nI t))]) hx hb d_S_leadBackToStart_71 hl (by decide) rfl (fun ls hl => ?_)
              have inner : ∀ (d2 : Nat) (o : Nat) (G2 : List Nat) (st2 sl2 : Nat → Int32) (L2 : Nat → Nat → Int32) (T2 : pz_S) (fk2 : Nat → Int32) (wk2 : Nat → Int64) (rk2 : Nat → Int32), o ≤ k → k + 1 ≤ o + d2 → T2.2.1 x = some e1 → T2.1[t]? = some x → G2[ix]? = some x → (∃ Nw, G2 = G ++ Nw) → gq_ok n a0 b k sg tu G2 st2 sl2 L2 → bl_ok (pz_fact n) G2 S fa wy re → bl_ok (pz_fact n) G2 T2 fk2 wk2 rk2 → (∀ c d, T.2.1 c = some d → T2.2.1 c = some d) → (∃ Nw, T2.1 = T.1 ++ Nw) → (∀ c e1, T2.2.1 c = some e1 → e1 ≤ len) → pz_ld (bl_s n k 0 sg tu od me) (bl_s n k 6 sg tu od me) sa gl len lk dk S T t T2 → (∀ y, y ∈ pz_st (bl_g n 6 sg tu) (bl_mt me od) o x → S.2.1 y = some f9 → T2.2.1 y ≠ none) → ∀ (H : Heap) (locs : List Loc) (ls : Array Slot), va_P D vwCl ([se_W q as9 n (am 0) (ag 0) r1 r2 (ak 0) (pz_fact n) rw bg sx ro (nI len) wz, bl_W q ah (am 0) (ag 0) 0 (pz_fact n) fa wy re S.1.length ly dp me cm, bl_W q ak (am 0) (ag 0) 6 (pz_fact n) fk2 wk2 rk2 T2.1.length lk dk me ck, gq_W q ag (am 0) (pz_fact n) (2 ^ b) (32 - b) rl st2 sl2 G2.length, wz_rows 12 rl (fun i9 => .inl (q.1, pz_fact n, .inl (L2 i9))), mv_W q am n k rt fo, wz_rows 12 rt (fun i9 => .inl (q.1, 8, .inl (M i9)))] : wz_G).flatten H → va_D A ([se_W q as9 n (am 0) (ag 0) r1 r2 (ak 0) (pz_fact n) rw bg sx ro (nI len) wz, bl_W q ah (am 0) (ag 0) 0 (pz_fact n) fa wy re S.1.length ly dp me cm, bl_W q ak (am 0) (ag 0) 6 (pz_fact n) fk2 wk2 rk2 T2.1.length lk dk me ck, gq_W q ag (am 0) (pz_fact n) (2 ^ b) (32 - b) rl st2 sl2 G2.length, wz_rows 12 rl (fun i9 => .inl (q.1, pz_fact n, .inl (L2 i9))), mv_W q am n k rt fo, wz_rows 12 rt (fun i9 => .inl (q.1, 8, .inl (M i9)))] : wz_G).flatten → va_S A s.heap H locs → lv_has ls 6 [(0, .ref (as9 0)), (1, .ref (ah 0)), (2, .int (nI t)), (3, .int (nI ix)), (4, .int (nI (len - e1))), (5, .int (nI o))] → W p l e ({ frames := 4, cells := 0, slots := 0, locals := 99 } : Room) s m ([.ref (as9 0), .ref (ah 0)] : List Value).toArray below meth c H locs 0 0 (MQ below (va_Qv (po_S_leadBackToStart q as9 ah ak ag am n b k rl rt fo M sg tu od a0 r1 r2 rw bg sx ro (nI len) wz G st sl L S fa wy re ly dp me cm T fk wk rk lk dk ck sa gl len i9 cb cc) (wz_At D q A) A) ([.ref (as9 0), .ref (ah 0)] : List Value).toArray s 0 0 A) (F0 m 73 ls []) := by
                intro d2
                induction d2 with
                | zero =>
                  intro o G2 st2 sl2 L2 T2 fk2 wk2 rk2 ho hd2 hTx hgx2 hix2 hp2 hok2 hS2 hT2 hkeep2 hpre2 hle2 hld2 hall
                  omega
                | succ d2 ih2 =>
                  intro o G2 st2 sl2 L2 T2 fk2 wk2 rk2 ho hd2 hTx hgx2 hix2 hp2 hok2 hS2 hT2 hkeep2 hpre2 hle2 hld2 hall H locs ls hP hD hS hl
                  refine lv_iload hx hb d_S_leadBackToStart_73 (lv_at hl 5 rfl) ?_
                  refine lv_aload_n hx hb d_S_leadBackToStart_75 rfl (lv_at hl 0 rfl) ?_
                  refine wz_get (v := .ref (am 0)) (T := T_S) (N := 12) hx hb hts i_S hown hK hP 0 0 rfl rfl rfl 1 (by decide) (hts _ kw_262) rfl rfl d_S_leadBackToStart_76 ?_
                  refine wz_getN (v := .int (nI k)) (T := T_M) (N := 4) hx hb hts i_M hown hK hP 5 0 rfl rfl rfl 3 (by decide) (hN _ (List.mem_of_getElem? (i := 2) rfl)) rfl rfl d_S_leadBackToStart_79 ?_
                  refine wz_ge (tgt := 99) hx hb d_S_leadBackToStart_82 (by decide) (by omega) (by omega) (fun hc5 => ?_) (fun hc5 => ?_)
                  · skip
                    have hoe : o = k := by omega
                    subst hoe
                    have hld2' : pz_ld (bl_s n o 0 sg tu od me) (bl_s n o 6 sg tu od me) sa gl len lk dk S T (t + 1) T2 := by
                      refine ⟨hld2.1, hld2.2.1, hld2.2.2.1, hld2.2.2.2.1, hld2.2.2.2.2.1, fun i z d f y h1 h2 h3 h4 h5 h6 h7 h8 => ?_⟩
                      by_cases e0 : i = t
                      · subst e0
                        have : z = x := Option.some.inj (h3.symm.trans hgx2)
                        subst this
                        have h9 := Option.some.inj (h5.symm.trans hSx)
                        exact hall y h7 (by rw [h8]; congr 1; omega)
                      · exact hld2.2.2.2.2.2 i z d f y h1 (by omega) h3 h4 h5 h6 h7 h8
                    have ht2 := (List.getElem?_eq_some_iff.mp hgx2).1
                    refine lv_iinc (v := nI (t + 1)) (lv' := [(2, .int (nI (t + 1))), (0, .ref (as9 0)), (1, .ref (ah 0)), (3, .int (nI ix)), (4, .int (nI (len - e1))), (5, .int (nI o))]) hx hb d_S_leadBackToStart_99 hl (k := 2) rfl (nI_1 t) (by decide) rfl (fun ls hl => ?_)
                    refine lv_goto (tgt := 8) hx hb d_S_leadBackToStart_102 (by decide) ?_
                    exact ih (t + 1) G2 st2 sl2 L2 T2 fk2 wk2 rk2 (by omega) (by omega) (by omega) hp2 hok2 hS2 hT2 hkeep2 hpre2 hle2 hld2' _ _ _ hP hD hS (lv_sub hl [1, 2, 0] rfl)
                  · skip
                    have ht2 := (List.getElem?_eq_some_iff.mp hgx2).1
                    have hix2l := (List.getElem?_eq_some_iff.mp hix2).1
                    refine lv_aload_n hx hb d_S_leadBackToStart_85 rfl (lv_at hl 0 rfl) ?_
                    refine lv_iload_n hx hb d_S_leadBackToStart_86 rfl (lv_at hl 3 rfl) ?_
                    refine lv_iload hx hb d_S_leadBackToStart_87 (lv_at hl 5 rfl) ?_
                    refine lv_aload_n hx hb d_S_leadBackToStart_89 rfl (lv_at hl 1 rfl) ?_
                    have hQ := wz_split (n := 7) (gc := [se_W q as9 n (am 0) (ag 0) r1 r2 (ak 0) (pz_fact n) rw bg sx ro (nI len) wz, bl_W q ah (am 0) (ag 0) 0 (pz_fact n) fa wy re S.1.length ly dp me cm, bl_W q ak (am 0) (ag 0) 6 (pz_fact n) fk2 wk2 rk2 T2.1.length lk dk me ck, gq_W q ag (am 0) (pz_fact n) (2 ^ b) (32 - b) rl st2 sl2 G2.length, wz_rows 12 rl (fun i9 => .inl (q.1, pz_fact n, .inl (L2 i9))), mv_W q am n k rt fo, wz_rows 12 rt (fun i9 => .inl (q.1, 8, .inl (M i9)))]) (gr := []) [0, 1, 2, 3, 4, 5, 6] [] rfl (by decide) rfl rfl hP hD
                    refine wz_callv (va_runV (As := [.int (nI ix), .int (nI o), .ref (ah 0)]) (rest := []) ⟨hx, hb, hml, hown, hts⟩ (c_S_leadBackFrom l D q as9 ah ak ag am n b k rl rt fo M sg tu od a0 r1 r2 rw bg sx ro (nI len) wz G2 st2 sl2 L2 S fa wy re ly dp me cm T2 fk2 wk2 rk2 lk dk ck sa gl len e1 f9 x ix o t cb T hn hb0 hb30 hM hk hmv hok2 hS2 hT2 hrv hbS hdS hdist hle2 hlen hld2 (by omega) hc5 hix2 hTx hSx (by omega) hdk9 _) (cwV 3 hts (wz_goodV kw_377 kw_379 kw_11 kw_34 kw_380) rfl rfl rfl (by decide +kernel) ⟨Nat.le_of_ble_eq_true rfl, Nat.le_of_ble_eq_true rfl⟩) (wz_preV (gi := 0) (k := 0) hN hK hQ wz_L_ok rfl rfl rfl) rfl rfl hl.1 rfl (lv_room (Nat.le_of_ble_eq_true rfl)) d_S_leadBackToStart_90 ⟨Nat.le_of_ble_eq_true rfl, Nat.le_of_ble_eq_true rfl⟩) hQ hS hA (fun gx H locs hp hP hD hS => ?_)
                    obtain ⟨G3, st3, sl3, L3, T3, fk3, wk3, rk3, rfl, ⟨Nb, hNb⟩, hok3, ⟨hS3, hT3, hkeep3, ⟨Nq, hNq⟩, hle3⟩, hld3, hall3⟩ := hp
                    obtain ⟨Na, hNa⟩ := hp2
                    obtain ⟨Np, hNp⟩ := hpre2
                    obtain ⟨hP, hD⟩ := wz_ord (n := 7) (gs' := [se_W q as9 n (am 0) (ag 0) r1 r2 (ak 0) (pz_fact n) rw bg sx ro (nI len) wz, bl_W q ah (am 0) (ag 0) 0 (pz_fact n) fa wy re S.1.length ly dp me cm, bl_W q ak (am 0) (ag 0) 6 (pz_fact n) fk3 wk3 rk3 T3.1.length lk dk me ck, gq_W q ag (am 0) (pz_fact n) (2 ^ b) (32 - b) rl st3 sl3 G3.length, wz_rows 12 rl (fun i9 => .inl (q.1, pz_fact n, .inl (L3 i9))), mv_W q am n k rt fo, wz_rows 12 rt (fun i9 => .inl (q.1, 8, .inl (M i9)))]) [0, 1, 2, 3, 4, 5, 6] rfl (by decide) rfl hP hD
                    refine lv_iinc (v := nI (o + 1)) (lv' := [(5, .int (nI (o + 1))), (0, .ref (as9 0)), (1, .ref (ah 0)), (2, .int (nI t)), (3, .int (nI ix)), (4, .int (nI (len - e1)))]) hx hb d_S_leadBackToStart_93 hl (k := 5) rfl (nI_1 o) (by decide) rfl (fun ls hl => ?_)
                    refine lv_goto (tgt := 73) hx hb d_S_leadBackToStart_96 (by decide) ?_
                    exact ih2 (o + 1) G3 st3 sl3 L3 T3 fk3 wk3 rk3 (by omega) (by omega) (hkeep3 x e1 hTx) (by rw [hNq, List.getElem?_append_left ht2]; exact hgx2) (by rw [hNb, List.getElem?_append_left hix2l]; exact hix2) ⟨Na ++ Nb, by rw [hNb, hNa, List.append_assoc]⟩ hok3 hS3 hT3 (fun c d h9 => hkeep3 c d (hkeep2 c d h9)) ⟨Np ++ Nq, by rw [hNq, hNp, List.append_assoc]⟩ hle3 hld3 (fun y hy hSy => by
                      rcases List.mem_append.mp hy with q | q
                      · obtain ⟨e2, he2⟩ := pz_mem_far hld2.1 ((hld2.1.2 y).mpr (hall y q hSy))
                        exact pz_sn (hkeep3 y e2 he2)
                      · exact hall3 y q hSy) _ _ _ hP hD hS (lv_sub hl [1, 2, 3, 4, 5, 0] rfl)
              exact inner (k + 1) 0 G1 st1 sl1 L1 T1 fk1 wk1 rk1 (by omega) (by omega) he hgx hix hp1 hok1 hS1 hT1 hkeep1 hpre1 hle1 hld1 (fun y hy => absurd hy List.not_mem_nil) _ _ _ hP hD hS (lv_sub hl [3, 4, 5, 2, 1, 0] rfl)
  exact outer (pz_fact n + 1) lk G st sl L T fk wk rk (by omega) (Nat.le_refl _) (by omega) ⟨[], by simp⟩ hok hblS hblT (fun _ _ h9 => h9) ⟨[], by simp⟩ hle (pz_ld_0 hbT) _ _ _ hP hD hS (lv_sub hl [1, 2, 0] rfl)
end
section
theorem d_S_leastStep_0 : decode b_S_leastStep 0 = .ok (.iconst 0, 1) := by decide +kernel
theorem d_S_leastStep_1 : decode b_S_leastStep 1 = .ok (.istore_n 3, 1) := by decide +kernel
theorem d_S_leastStep_2 : decode b_S_leastStep 2 = .ok (.iload_n 3, 1) := by decide +kernel
theorem d_S_leastStep_3 : decode b_S_leastStep 3 = .ok (.aload_n 0, 1) := by decide +kernel
theorem d_S_leastStep_4 : decode b_S_leastStep 4 = .ok (.getfield 18, 3) := by decide +kernel
theorem d_S_leastStep_7 : decode b_S_leastStep 7 = .ok (.getfield 137, 3) := by decide +kernel
theorem d_S_leastStep_10 : decode b_S_leastStep 10 = .ok (.if_icmp .ge 79, 3) := by decide +kernel
theorem d_S_leastStep_13 : decode b_S_leastStep 13 = .ok (.aload_n 0, 1) := by decide +kernel
theorem d_S_leastStep_14 : decode b_S_leastStep 14 = .ok (.getfield 18, 3) := by decide +kernel
theorem d_S_leastStep_17 : decode b_S_leastStep 17 = .ok (.aload_n 0, 1) := by decide +kernel
theorem d_S_leastStep_18 : decode b_S_leastStep 18 = .ok (.getfield 47, 3) := by decide +kernel
theorem d_S_leastStep_21 : decode b_S_leastStep 21 = .ok (.getfield 146, 3) := by decide +kernel
theorem d_S_leastStep_24 : decode b_S_leastStep 24 = .ok (.iload_n 3, 1) := by decide +kernel
theorem d_S_leastStep_25 : decode b_S_leastStep 25 = .ok (.invokevirtual 149, 3) := by decide +kernel
theorem d_S_leastStep_28 : decode b_S_leastStep 28 = .ok (.istore 4, 2) := by decide +kernel
theorem d_S_leastStep_30 : decode b_S_leastStep 30 = .ok (.iload_n 1, 1) := by decide +kernel
theorem d_S_leastStep_31 : decode b_S_leastStep 31 = .ok (.istore 5, 2) := by decide +kernel
theorem d_S_leastStep_33 : decode b_S_leastStep 33 = .ok (.iconst 1, 1) := by decide +kernel
theorem d_S_leastStep_34 : decode b_S_leastStep 34 = .ok (.istore 6, 2) := by decide +kernel
theorem d_S_leastStep_36 : decode b_S_leastStep 36 = .ok (.iload 6, 2) := by decide +kernel
theorem d_S_leastStep_38 : decode b_S_leastStep 38 = .ok (.iload 4, 2) := by decide +kernel
theorem d_S_leastStep_40 : decode b_S_leastStep 40 = .ok (.if_icmp .gt 43, 3) := by decide +kernel
theorem d_S_leastStep_43 : decode b_S_leastStep 43 = .ok (.aload_n 0, 1) := by decide +kernel
theorem d_S_leastStep_44 : decode b_S_leastStep 44 = .ok (.getfield 31, 3) := by decide +kernel
theorem d_S_leastStep_47 : decode b_S_leastStep 47 = .ok (.iload_n 3, 1) := by decide +kernel
theorem d_S_leastStep_48 : decode b_S_leastStep 48 = .ok (.iload 5, 2) := by decide +kernel
theorem d_S_leastStep_50 : decode b_S_leastStep 50 = .ok (.invokevirtual 152, 3) := by decide +kernel
theorem d_S_leastStep_53 : decode b_S_leastStep 53 = .ok (.istore 5, 2) := by decide +kernel
theorem d_S_leastStep_55 : decode b_S_leastStep 55 = .ok (.aload_n 0, 1) := by decide +kernel
theorem d_S_leastStep_56 : decode b_S_leastStep 56 = .ok (.getfield 47, 3) := by decide +kernel
theorem d_S_leastStep_59 : decode b_S_leastStep 59 = .ok (.getfield 108, 3) := by decide +kernel
theorem d_S_leastStep_62 : decode b_S_leastStep 62 = .ok (.iload 5, 2) := by decide +kernel
theorem d_S_leastStep_64 : decode b_S_leastStep 64 = .ok (.iaload, 1) := by decide +kernel
theorem d_S_leastStep_65 : decode b_S_leastStep 65 = .ok (.iload_n 2, 1) := by decide +kernel
theorem d_S_leastStep_66 : decode b_S_leastStep 66 = .ok (.if_icmp .ne 11, 3) := by decide +kernel
theorem d_S_leastStep_69 : decode b_S_leastStep 69 = .ok (.iload_n 3, 1) := by decide +kernel
theorem d_S_leastStep_70 : decode b_S_leastStep 70 = .ok (.bipush 15, 2) := by decide +kernel
theorem d_S_leastStep_72 : decode b_S_leastStep 72 = .ok (.imul, 1) := by decide +kernel
theorem d_S_leastStep_73 : decode b_S_leastStep 73 = .ok (.iload 6, 2) := by decide +kernel
theorem d_S_leastStep_75 : decode b_S_leastStep 75 = .ok (.iadd, 1) := by decide +kernel
theorem d_S_leastStep_76 : decode b_S_leastStep 76 = .ok (.ireturn, 1) := by decide +kernel
theorem d_S_leastStep_77 : decode b_S_leastStep 77 = .ok (.iinc 6 1, 3) := by decide +kernel
theorem d_S_leastStep_80 : decode b_S_leastStep 80 = .ok (.goto (-44), 3) := by decide +kernel
theorem d_S_leastStep_83 : decode b_S_leastStep 83 = .ok (.iinc 3 1, 3) := by decide +kernel
theorem d_S_leastStep_86 : decode b_S_leastStep 86 = .ok (.goto (-84), 3) := by decide +kernel
theorem d_S_leastStep_89 : decode b_S_leastStep 89 = .ok (.iconst 0, 1) := by decide +kernel
theorem d_S_leastStep_90 : decode b_S_leastStep 90 = .ok (.ireturn, 1) := by decide +kernel
theorem d_S_afterStep_0 : decode b_S_afterStep 0 = .ok (.iload_n 1, 1) := by decide +kernel
theorem d_S_afterStep_1 : decode b_S_afterStep 1 = .ok (.istore_n 3, 1) := by decide +kernel
theorem d_S_afterStep_2 : decode b_S_afterStep 2 = .ok (.iconst 0, 1) := by decide +kernel
theorem d_S_afterStep_3 : decode b_S_afterStep 3 = .ok (.istore 4, 2) := by decide +kernel
theorem d_S_afterStep_5 : decode b_S_afterStep 5 = .ok (.iload 4, 2) := by decide +kernel
theorem d_S_afterStep_7 : decode b_S_afterStep 7 = .ok (.iload_n 2, 1) := by decide +kernel
theorem d_S_afterStep_8 : decode b_S_afterStep 8 = .ok (.bipush 15, 2) := by decide +kernel
theorem d_S_afterStep_10 : decode b_S_afterStep 10 = .ok (.irem, 1) := by decide +kernel
theorem d_S_afterStep_11 : decode b_S_afterStep 11 = .ok (.if_icmp .ge 22, 3) := by decide +kernel
theorem d_S_afterStep_14 : decode b_S_afterStep 14 = .ok (.aload_n 0, 1) := by decide +kernel
theorem d_S_afterStep_15 : decode b_S_afterStep 15 = .ok (.getfield 31, 3) := by decide +kernel
theorem d_S_afterStep_18 : decode b_S_afterStep 18 = .ok (.iload_n 2, 1) := by decide +kernel
theorem d_S_afterStep_19 : decode b_S_afterStep 19 = .ok (.bipush 15, 2) := by decide +kernel
theorem d_S_afterStep_21 : decode b_S_afterStep 21 = .ok (.idiv, 1) := by decide +kernel
theorem d_S_afterStep_22 : decode b_S_afterStep 22 = .ok (.iload_n 3, 1) := by decide +kernel
theorem d_S_afterStep_23 : decode b_S_afterStep 23 = .ok (.invokevirtual 152, 3) := by decide +kernel
theorem d_S_afterStep_26 : decode b_S_afterStep 26 = .ok (.istore_n 3, 1) := by decide +kernel
theorem d_S_afterStep_27 : decode b_S_afterStep 27 = .ok (.iinc 4 1, 3) := by decide +kernel
theorem d_S_afterStep_30 : decode b_S_afterStep 30 = .ok (.goto (-25), 3) := by decide +kernel
theorem d_S_afterStep_33 : decode b_S_afterStep 33 = .ok (.iload_n 3, 1) := by decide +kernel
theorem d_S_afterStep_34 : decode b_S_afterStep 34 = .ok (.ireturn, 1) := by decide +kernel
theorem d_S_walkLeastRow_0 : decode b_S_walkLeastRow 0 = .ok (.aload_n 0, 1) := by decide +kernel
theorem d_S_walkLeastRow_1 : decode b_S_walkLeastRow 1 = .ok (.getfield 67, 3) := by decide +kernel
theorem d_S_walkLeastRow_4 : decode b_S_walkLeastRow 4 = .ok (.istore_n 1, 1) := by decide +kernel
theorem d_S_walkLeastRow_5 : decode b_S_walkLeastRow 5 = .ok (.iconst 0, 1) := by decide +kernel
theorem d_S_walkLeastRow_6 : decode b_S_walkLeastRow 6 = .ok (.istore_n 2, 1) := by decide +kernel
theorem d_S_walkLeastRow_7 : decode b_S_walkLeastRow 7 = .ok (.iload_n 2, 1) := by decide +kernel
theorem d_S_walkLeastRow_8 : decode b_S_walkLeastRow 8 = .ok (.aload_n 0, 1) := by decide +kernel
theorem d_S_walkLeastRow_9 : decode b_S_walkLeastRow 9 = .ok (.getfield 9, 3) := by decide +kernel
theorem d_S_walkLeastRow_12 : decode b_S_walkLeastRow 12 = .ok (.if_icmp .ge 49, 3) := by decide +kernel
theorem d_S_walkLeastRow_15 : decode b_S_walkLeastRow 15 = .ok (.iload_n 2, 1) := by decide +kernel
theorem d_S_walkLeastRow_16 : decode b_S_walkLeastRow 16 = .ok (.aload_n 0, 1) := by decide +kernel
theorem d_S_walkLeastRow_17 : decode b_S_walkLeastRow 17 = .ok (.getfield 50, 3) := by decide +kernel
theorem d_S_walkLeastRow_20 : decode b_S_walkLeastRow 20 = .ok (.arraylength, 1) := by decide +kernel
theorem d_S_walkLeastRow_21 : decode b_S_walkLeastRow 21 = .ok (.if_icmp .ge 40, 3) := by decide +kernel
theorem d_S_walkLeastRow_24 : decode b_S_walkLeastRow 24 = .ok (.aload_n 0, 1) := by decide +kernel
theorem d_S_walkLeastRow_25 : decode b_S_walkLeastRow 25 = .ok (.getfield 50, 3) := by decide +kernel
theorem d_S_walkLeastRow_28 : decode b_S_walkLeastRow 28 = .ok (.iload_n 2, 1) := by decide +kernel
theorem d_S_walkLeastRow_29 : decode b_S_walkLeastRow 29 = .ok (.aload_n 0, 1) := by decide +kernel
theorem d_S_walkLeastRow_30 : decode b_S_walkLeastRow 30 = .ok (.iload_n 1, 1) := by decide +kernel
theorem d_S_walkLeastRow_31 : decode b_S_walkLeastRow 31 = .ok (.aload_n 0, 1) := by decide +kernel
theorem d_S_walkLeastRow_32 : decode b_S_walkLeastRow 32 = .ok (.getfield 9, 3) := by decide +kernel
theorem d_S_walkLeastRow_35 : decode b_S_walkLeastRow 35 = .ok (.iload_n 2, 1) := by decide +kernel
theorem d_S_walkLeastRow_36 : decode b_S_walkLeastRow 36 = .ok (.isub, 1) := by decide +kernel
theorem d_S_walkLeastRow_37 : decode b_S_walkLeastRow 37 = .ok (.iconst 1, 1) := by decide +kernel
theorem d_S_walkLeastRow_38 : decode b_S_walkLeastRow 38 = .ok (.isub, 1) := by decide +kernel
theorem d_S_walkLeastRow_39 : decode b_S_walkLeastRow 39 = .ok (.invokevirtual 158, 3) := by decide +kernel
theorem d_S_walkLeastRow_42 : decode b_S_walkLeastRow 42 = .ok (.iastore, 1) := by decide +kernel
theorem d_S_walkLeastRow_43 : decode b_S_walkLeastRow 43 = .ok (.aload_n 0, 1) := by decide +kernel
theorem d_S_walkLeastRow_44 : decode b_S_walkLeastRow 44 = .ok (.iload_n 1, 1) := by decide +kernel
theorem d_S_walkLeastRow_45 : decode b_S_walkLeastRow 45 = .ok (.aload_n 0, 1) := by decide +kernel
theorem d_S_walkLeastRow_46 : decode b_S_walkLeastRow 46 = .ok (.getfield 50, 3) := by decide +kernel
theorem d_S_walkLeastRow_49 : decode b_S_walkLeastRow 49 = .ok (.iload_n 2, 1) := by decide +kernel
theorem d_S_walkLeastRow_50 : decode b_S_walkLeastRow 50 = .ok (.iaload, 1) := by decide +kernel
theorem d_S_walkLeastRow_51 : decode b_S_walkLeastRow 51 = .ok (.invokevirtual 161, 3) := by decide +kernel
theorem d_S_walkLeastRow_54 : decode b_S_walkLeastRow 54 = .ok (.istore_n 1, 1) := by decide +kernel
theorem d_S_walkLeastRow_55 : decode b_S_walkLeastRow 55 = .ok (.iinc 2 1, 3) := by decide +kernel
theorem d_S_walkLeastRow_58 : decode b_S_walkLeastRow 58 = .ok (.goto (-51), 3) := by decide +kernel
theorem d_S_walkLeastRow_61 : decode b_S_walkLeastRow 61 = .ok (.return_, 1) := by decide +kernel
theorem kw_13 : (Cond.selects "TwoEndSearch$Search" ⟨"TwoEndSearch$Search", "leastStep", "(II)I"⟩ ⟨"TwoEndSearch$Search", "leastStep", "(II)I"⟩ : Cond) ∈ bigW := bigW_of 13 (by decide +kernel) (by decide +kernel)
theorem kw_14 : (Cond.selects "TwoEndSearch$Search" ⟨"TwoEndSearch$Search", "afterStep", "(II)I"⟩ ⟨"TwoEndSearch$Search", "afterStep", "(II)I"⟩ : Cond) ∈ bigW := bigW_of 14 (by decide +kernel) (by decide +kernel)
theorem kw_272 : (Cond.fieldLink "TwoEndSearch$Search" 67 "TwoEndSearch$Search" "root" "I" : Cond) ∈ bigW := bigW_of 272 (by decide +kernel) (by decide +kernel)
theorem kw_388 : (Cond.methodLink "TwoEndSearch$Search" 158 ⟨"TwoEndSearch$Search", "leastStep", "(II)I"⟩ : Cond) ∈ bigW := bigW_of 388 (by decide +kernel) (by decide +kernel)
theorem kw_390 : (Cond.instanceMethod ⟨"TwoEndSearch$Search", "leastStep", "(II)I"⟩ : Cond) ∈ bigW := bigW_of 390 (by decide +kernel) (by decide +kernel)
theorem kw_391 : (Cond.code ⟨"TwoEndSearch$Search", "leastStep", "(II)I"⟩ prog_5_method_11_code 7 (some .int) : Cond) ∈ bigW := bigW_of 391 (by decide +kernel) (by decide +kernel)
theorem kw_392 : (Cond.methodLink "TwoEndSearch$Search" 161 ⟨"TwoEndSearch$Search", "afterStep", "(II)I"⟩ : Cond) ∈ bigW := bigW_of 392 (by decide +kernel) (by decide +kernel)
theorem kw_394 : (Cond.instanceMethod ⟨"TwoEndSearch$Search", "afterStep", "(II)I"⟩ : Cond) ∈ bigW := bigW_of 394 (by decide +kernel) (by decide +kernel)
theorem kw_395 : (Cond.code ⟨"TwoEndSearch$Search", "afterStep", "(II)I"⟩ prog_5_method_12_code 5 (some .int) : Cond) ∈ bigW := bigW_of 395 (by decide +kernel) (by decide +kernel)
def po_S_leastStep (q : wz_Q) (as9 ak ag am : Nat → Nat) (n b k : Nat) (rl rt : Nat → Nat) (fo : Nat → Int32) (M : Nat → Nat → Int32) (sg tu : Nat → Nat → Nat) (od : Nat → Nat) (a0 r1 r2 : Nat) (rw : Nat → Int32) (bg : Int32) (sx ro : Nat) (ln : Int32) (wz : Int64) (G : List Nat) (st sl : Nat → Int32) (L : Nat → Nat → Int32) (T : pz_S) (fk : Nat → Int32) (wk : Nat → Int64) (rk : Nat → Int32) (lk dk : Nat) (me ck : Int32) (x ix lf : Nat) : Int32 → wz_G → Prop := fun v w => ∃ (G' : List Nat) (st' sl' : Nat → Int32) (L' : Nat → Nat → Int32) (m t : Nat), w = [se_W q as9 n (am 0) (ag 0) r1 r2 (ak 0) (pz_fact n) rw bg sx ro ln wz, bl_W q ak (am 0) (ag 0) 6 (pz_fact n) fk wk rk T.1.length lk dk me ck, gq_W q ag (am 0) (pz_fact n) (2 ^ b) (32 - b) rl st' sl' G'.length, wz_rows 12 rl (fun i9 => .inl (q.1, pz_fact n, .inl (L' i9))), mv_W q am n k rt fo, wz_rows 12 rt (fun i9 => .inl (q.1, 8, .inl (M i9)))] ∧ (∃ Nw, G' = G ++ Nw) ∧ gq_ok n a0 b k sg tu G' st' sl' L' ∧ bl_ok (pz_fact n) G' T fk wk rk ∧ v = nI (m * 15 + t) ∧ pz_fst k (bl_mt me od) (fun m9 t9 => T.2.1 (pz_it (bl_g n 0 sg tu m9) t9 x) = some lf) m t
set_option maxHeartbeats 4000000 in
set_option maxRecDepth 100000 in
/-- the first step that leads so near to the goal -/
theorem c_S_leastStep (l : Launch) (D : va_G) (q : wz_Q) (as9 ak ag am : Nat → Nat) (n b k : Nat) (rl rt : Nat → Nat) (fo : Nat → Int32) (M : Nat → Nat → Int32) (sg tu : Nat → Nat → Nat) (od : Nat → Nat) (a0 r1 r2 : Nat) (rw : Nat → Int32) (bg : Int32) (sx ro : Nat) (ln : Int32) (wz : Int64) (G : List Nat) (st sl : Nat → Int32) (L : Nat → Nat → Int32) (T : pz_S) (fk : Nat → Int32) (wk : Nat → Int64) (rk : Nat → Int32) (lk dk : Nat) (me ck : Int32) (x ix lf : Nat) (hn : n ≤ 8) (hb0 : 0 < b) (hb30 : b ≤ 30) (hM : pz_fact n < 2 ^ b) (hk : k ≤ 6) (hmv : mv_ok n k fo M sg tu od) (hok : gq_ok n a0 b k sg tu G st sl L) (hblT : bl_ok (pz_fact n) G T fk wk rk) (hix : G[ix]? = some x) (hlt : ∀ y e, T.2.1 y = some e → e < 2 ^ 30) (hlf : lf < 2 ^ 30) (hex : ∃ m t, m < k ∧ 0 < t ∧ t ≤ bl_mt me od m ∧ T.2.1 (pz_it (bl_g n 0 sg tu m) t x) = some lf) : wz_Mi l y_S_leastStep ws_S_leastStep ({ frames := 3, cells := 0, slots := 0, locals := 72 } : Room) D q ([.ref (as9 0), .int (nI ix), .int (nI lf)] : List Value) [se_W q as9 n (am 0) (ag 0) r1 r2 (ak 0) (pz_fact n) rw bg sx ro ln wz, bl_W q ak (am 0) (ag 0) 6 (pz_fact n) fk wk rk T.1.length lk dk me ck, gq_W q ag (am 0) (pz_fact n) (2 ^ b) (32 - b) rl st sl G.length, wz_rows 12 rl (fun i9 => .inl (q.1, pz_fact n, .inl (L i9))), mv_W q am n k rt fo, wz_rows 12 rt (fun i9 => .inl (q.1, 8, .inl (M i9)))] (po_S_leastStep q as9 ak ag am n b k rl rt fo M sg tu od a0 r1 r2 rw bg sx ro ln wz G st sl L T fk wk rk lk dk me ck x ix lf) 0 0 := by
  intro sz9
  refine wz_enter (cc := b_S_leastStep) (maxL := 7) (ret := (some .int)) (Qc := fun A => (va_Qi (po_S_leastStep q as9 ak ag am n b k rl rt fo M sg tu od a0 r1 r2 rw bg sx ro ln wz G st sl L T fk wk rk lk dk me ck x ix lf) (wz_At D q A) A)) (by decide) (Nat.le_of_ble_eq_true rfl) ?_
  intro p e s m below meth c A ls C hP hD hS hl
  obtain ⟨hx, hb, hr, hml, hlocks, hown, hts, hN, hK, hA, hnm⟩ := C
  have hown : s.vm.findClass "TwoEndSearch$Search" = some m.cls := hown
  have hl : lv_has ls 7 [(0, .ref (as9 0)), (1, .int (nI ix)), (2, .int (nI lf))] := hl
  have hfl := pz_fact_le hn
  have hGl := gq_len hok
  have hixl := (List.getElem?_eq_some_iff.mp hix).1
  refine lv_iconst (v := nI 0) hx hb d_S_leastStep_0 (by decide) ?_
  refine lv_istore_n (lv' := [(3, .int (nI 0)), (0, .ref (as9 0)), (1, .int (nI ix)), (2, .int (nI lf))]) hx hb d_S_leastStep_1 rfl hl (by decide) rfl (fun ls hl => ?_)
  have outer : ∀ (d : Nat) (o : Nat) (G1 : List Nat) (st1 sl1 : Nat → Int32) (L1 : Nat → Nat → Int32), o ≤ k → k + 1 ≤ o + d → (∃ Nw, G1 = G ++ Nw) → gq_ok n a0 b k sg tu G1 st1 sl1 L1 → bl_ok (pz_fact n) G1 T fk wk rk → (∀ m9 t9, m9 < o → 0 < t9 → t9 ≤ bl_mt me od m9 → T.2.1 (pz_it (bl_g n 0 sg tu m9) t9 x) ≠ some lf) → ∀ (H : Heap) (locs : List Loc) (ls : Array Slot), va_P D vwCl ([se_W q as9 n (am 0) (ag 0) r1 r2 (ak 0) (pz_fact n) rw bg sx ro ln wz, bl_W q ak (am 0) (ag 0) 6 (pz_fact n) fk wk rk T.1.length lk dk me ck, gq_W q ag (am 0) (pz_fact n) (2 ^ b) (32 - b) rl st1 sl1 G1.length, wz_rows 12 rl (fun i9 => .inl (q.1, pz_fact n, .inl (L1 i9))), mv_W q am n k rt fo, wz_rows 12 rt (fun i9 => .inl (q.1, 8, .inl (M i9)))] : wz_G).flatten H → va_D A ([se_W q as9 n (am 0) (ag 0) r1 r2 (ak 0) (pz_fact n) rw bg sx ro ln wz, bl_W q ak (am 0) (ag 0) 6 (pz_fact n) fk wk rk T.1.length lk dk me ck, gq_W q ag (am 0) (pz_fact n) (2 ^ b) (32 - b) rl st1 sl1 G1.length, wz_rows 12 rl (fun i9 => .inl (q.1, pz_fact n, .inl (L1 i9))), mv_W q am n k rt fo, wz_rows 12 rt (fun i9 => .inl (q.1, 8, .inl (M i9)))] : wz_G).flatten → va_S A s.heap H locs → lv_has ls 7 [(0, .ref (as9 0)), (1, .int (nI ix)), (2, .int (nI lf)), (3, .int (nI o))] → W p l e ({ frames := 3, cells := 0, slots := 0, locals := 72 } : Room) s m ([.ref (as9 0), .int (nI ix), .int (nI lf)] : List Value).toArray below meth c H locs 0 0 (MQ below (va_Qi (po_S_leastStep q as9 ak ag am n b k rl rt fo M sg tu od a0 r1 r2 rw bg sx ro ln wz G st sl L T fk wk rk lk dk me ck x ix lf) (wz_At D q A) A) ([.ref (as9 0), .int (nI ix), .int (nI lf)] : List Value).toArray s 0 0 A) (F0 m 2 ls []) := by
    intro d
    induction d with
    | zero =>
      intro o G1 st1 sl1 L1 ho hd hp1 hok1 hT1 hno
      omega
    | succ d ih =>
      intro o G1 st1 sl1 L1 ho hd hp1 hok1 hT1 hno H locs ls hP hD hS hl
      refine lv_iload_n hx hb d_S_leastStep_2 rfl (lv_at hl 3 rfl) ?_
      refine lv_aload_n hx hb d_S_leastStep_3 rfl (lv_at hl 0 rfl) ?_
      refine wz_get (v := .ref (am 0)) (T := T_S) (N := 12) hx hb hts i_S hown hK hP 0 0 rfl rfl rfl 1 (by decide) (hts _ kw_262) rfl rfl d_S_leastStep_4 ?_
      refine wz_getN (v := .int (nI k)) (T := T_M) (N := 4) hx hb hts i_M hown hK hP 4 0 rfl rfl rfl 3 (by decide) (hN _ (List.mem_of_getElem? (i := 2) rfl)) rfl rfl d_S_leastStep_7 ?_
      refine wz_ge (tgt := 89) hx hb d_S_leastStep_10 (by decide) (by omega) (by omega) (fun hc => ?_) (fun hc => ?_)
      · skip
        obtain ⟨m9, t9, q1, q2, q3, q4⟩ := hex
        exact absurd q4 (hno m9 t9 (by omega) q2 q3)
      · skip
        have hmt := bl_mt_le (me := me) hmv hc
        have huw := bl_way hk (Or.inl rfl) hc
        refine lv_aload_n hx hb d_S_leastStep_13 rfl (lv_at hl 0 rfl) ?_
        refine wz_get (v := .ref (am 0)) (T := T_S) (N := 12) hx hb hts i_S hown hK hP 0 0 rfl rfl rfl 1 (by decide) (hts _ kw_262) rfl rfl d_S_leastStep_14 ?_
        refine lv_aload_n hx hb d_S_leastStep_17 rfl (lv_at hl 0 rfl) ?_
        refine wz_get (v := .ref (ak 0)) (T := T_S) (N := 12) hx hb hts i_S hown hK hP 0 0 rfl rfl rfl 5 (by decide) (hts _ kw_266) rfl rfl d_S_leastStep_18 ?_
        refine wz_getN (v := .int me) (T := T_B) (N := 11) hx hb hts i_B hown hK hP 1 0 rfl rfl rfl 9 (by decide) (hN _ (List.mem_of_getElem? (i := 13) rfl)) rfl rfl d_S_leastStep_21 ?_
        refine lv_iload_n hx hb d_S_leastStep_24 rfl (lv_at hl 3 rfl) ?_
        have hQ := wz_split (n := 6) (gc := [mv_W q am n k rt fo]) (gr := [se_W q as9 n (am 0) (ag 0) r1 r2 (ak 0) (pz_fact n) rw bg sx ro ln wz, bl_W q ak (am 0) (ag 0) 6 (pz_fact n) fk wk rk T.1.length lk dk me ck, gq_W q ag (am 0) (pz_fact n) (2 ^ b) (32 - b) rl st1 sl1 G1.length, wz_rows 12 rl (fun i9 => .inl (q.1, pz_fact n, .inl (L1 i9))), wz_rows 12 rt (fun i9 => .inl (q.1, 8, .inl (M i9)))]) [4] [0, 1, 2, 3, 5] rfl (by decide) rfl rfl hP hD
        refine wz_calli (va_runV (As := [.int me, .int (nI o)]) (rest := []) ⟨hx, hb, hml, hown, hts⟩ (c_M_mostTimes l D q am n k rt fo me o (by omega) _) (cwV 2 hts (wz_goodV kw_381 kw_360 kw_361 kw_32 kw_362) rfl rfl rfl (by decide +kernel) ⟨Nat.le_of_ble_eq_true rfl, Nat.le_of_ble_eq_true rfl⟩) (wz_preV (gi := 0) (k := 0) hN hK hQ wz_L_ok rfl rfl rfl) rfl rfl hl.1 rfl (lv_room (Nat.le_of_ble_eq_true rfl)) d_S_leastStep_25 ⟨Nat.le_of_ble_eq_true rfl, Nat.le_of_ble_eq_true rfl⟩) hQ hS hA (fun v_25 gx H locs hp hP hD hS => ?_)
        obtain ⟨rfl, rfl⟩ := hp
        obtain ⟨hP, hD⟩ := wz_ord (n := 6) (gs' := [se_W q as9 n (am 0) (ag 0) r1 r2 (ak 0) (pz_fact n) rw bg sx ro ln wz, bl_W q ak (am 0) (ag 0) 6 (pz_fact n) fk wk rk T.1.length lk dk me ck, gq_W q ag (am 0) (pz_fact n) (2 ^ b) (32 - b) rl st1 sl1 G1.length, wz_rows 12 rl (fun i9 => .inl (q.1, pz_fact n, .inl (L1 i9))), mv_W q am n k rt fo, wz_rows 12 rt (fun i9 => .inl (q.1, 8, .inl (M i9)))]) [1, 2, 3, 4, 0, 5] rfl (by decide) rfl hP hD
        refine wz_topi (y := nI (bl_mt me od o)) (bl_mt_eq hmv hc) ?_
        obtain ⟨Na, hNa⟩ := hp1
        have hix1 : G1[ix]? = some x := by rw [hNa, List.getElem?_append_left hixl]; exact hix
        refine lv_istore (lv' := [(4, .int (nI (bl_mt me od o))), (0, .ref (as9 0)), (1, .int (nI ix)), (2, .int (nI lf)), (3, .int (nI o))]) hx hb d_S_leastStep_28 hl (by decide) rfl (fun ls hl => ?_)
        refine lv_iload_n hx hb d_S_leastStep_30 rfl (lv_at hl 2 rfl) ?_
        refine lv_istore (lv' := [(5, .int (nI ix)), (4, .int (nI (bl_mt me od o))), (0, .ref (as9 0)), (1, .int (nI ix)), (2, .int (nI lf)), (3, .int (nI o))]) hx hb d_S_leastStep_31 hl (by decide) rfl (fun ls hl => ?_)
        refine lv_iconst (v := nI 1) hx hb d_S_leastStep_33 (by decide) ?_
        refine lv_istore (lv' := [(6, .int (nI 1)), (5, .int (nI ix)), (4, .int (nI (bl_mt me od o))), (0, .ref (as9 0)), (1, .int (nI ix)), (2, .int (nI lf)), (3, .int (nI o))]) hx hb d_S_leastStep_34 hl (by decide) rfl (fun ls hl => ?_)
        have inner : ∀ (d2 : Nat) (t j : Nat) (G2 : List Nat) (st2 sl2 : Nat → Int32) (L2 : Nat → Nat → Int32), t ≤ bl_mt me od o → bl_mt me od o + 1 ≤ t + d2 → G2[j]? = some (pz_it (bl_g n 0 sg tu o) t x) → (∃ Nw, G2 = G ++ Nw) → gq_ok n a0 b k sg tu G2 st2 sl2 L2 → bl_ok (pz_fact n) G2 T fk wk rk → (∀ t9, 0 < t9 → t9 ≤ t → T.2.1 (pz_it (bl_g n 0 sg tu o) t9 x) ≠ some lf) → ∀ (H : Heap) (locs : List Loc) (ls : Array Slot), va_P D vwCl ([se_W q as9 n (am 0) (ag 0) r1 r2 (ak 0) (pz_fact n) rw bg sx ro ln wz, bl_W q ak (am 0) (ag 0) 6 (pz_fact n) fk wk rk T.1.length lk dk me ck, gq_W q ag (am 0) (pz_fact n) (2 ^ b) (32 - b) rl st2 sl2 G2.length, wz_rows 12 rl (fun i9 => .inl (q.1, pz_fact n, .inl (L2 i9))), mv_W q am n k rt fo, wz_rows 12 rt (fun i9 => .inl (q.1, 8, .inl (M i9)))] : wz_G).flatten H → va_D A ([se_W q as9 n (am 0) (ag 0) r1 r2 (ak 0) (pz_fact n) rw bg sx ro ln wz, bl_W q ak (am 0) (ag 0) 6 (pz_fact n) fk wk rk T.1.length lk dk me ck, gq_W q ag (am 0) (pz_fact n) (2 ^ b) (32 - b) rl st2 sl2 G2.length, wz_rows 12 rl (fun i9 => .inl (q.1, pz_fact n, .inl (L2 i9))), mv_W q am n k rt fo, wz_rows 12 rt (fun i9 => .inl (q.1, 8, .inl (M i9)))] : wz_G).flatten → va_S A s.heap H locs → lv_has ls 7 [(0, .ref (as9 0)), (1, .int (nI ix)), (2, .int (nI lf)), (3, .int (nI o)), (4, .int (nI (bl_mt me od o))), (5, .int (nI j)), (6, .int (nI (t + 1)))] → W p l e ({ frames := 3, cells := 0, slots := 0, locals := 72 } : Room) s m ([.ref (as9 0), .int (nI ix), .int (nI lf)] : List Value).toArray below meth c H locs 0 0 (MQ below (va_Qi (po_S_leastStep q as9 ak ag am n b k rl rt fo M sg tu od a0 r1 r2 rw bg sx ro ln wz G st sl L T fk wk rk lk dk me ck x ix lf) (wz_At D q A) A) ([.ref (as9 0), .int (nI ix), .int (nI lf)] : List Value).toArray s 0 0 A) (F0 m 36 ls []) := by
          intro d2
          induction d2 with
          | zero =>
            intro t j G2 st2 sl2 L2 ht hd2 hj hp2 hok2 hT2 hno2
            omega
          | succ d2 ih2 =>
            intro t j G2 st2 sl2 L2 ht hd2 hj hp2 hok2 hT2 hno2 H locs ls hP hD hS hl
            refine lv_iload hx hb d_S_leastStep_36 (lv_at hl 6 rfl) ?_
            refine lv_iload hx hb d_S_leastStep_38 (lv_at hl 4 rfl) ?_
            refine wz_gt (tgt := 83) hx hb d_S_leastStep_40 (by decide) (by omega) (by omega) (fun hc2 => ?_) (fun hc2 => ?_)
            · skip
              refine lv_iinc (v := nI (o + 1)) (lv' := [(3, .int (nI (o + 1))), (0, .ref (as9 0)), (1, .int (nI ix)), (2, .int (nI lf)), (4, .int (nI (bl_mt me od o))), (5, .int (nI j)), (6, .int (nI (t + 1)))]) hx hb d_S_leastStep_83 hl (k := 3) rfl (nI_1 o) (by decide) rfl (fun ls hl => ?_)
              refine lv_goto (tgt := 2) hx hb d_S_leastStep_86 (by decide) ?_
              exact ih (o + 1) G2 st2 sl2 L2 (by omega) (by omega) hp2 hok2 hT2 (fun m9 t9 q1 q2 q3 => by
                by_cases e0 : m9 = o
                · subst e0; exact hno2 t9 q2 (by omega)
                · exact hno m9 t9 (by omega) q2 q3) _ _ _ hP hD hS (lv_sub hl [1, 2, 3, 0] rfl)
            · skip
              refine lv_aload_n hx hb d_S_leastStep_43 rfl (lv_at hl 0 rfl) ?_
              refine wz_get (v := .ref (ag 0)) (T := T_S) (N := 12) hx hb hts i_S hown hK hP 0 0 rfl rfl rfl 2 (by decide) (hts _ kw_263) rfl rfl d_S_leastStep_44 ?_
              refine lv_iload_n hx hb d_S_leastStep_47 rfl (lv_at hl 3 rfl) ?_
              refine wz_topi (y := nI (0 + o)) (by rw [Nat.zero_add]) ?_
              refine lv_iload hx hb d_S_leastStep_48 (lv_at hl 5 rfl) ?_
              have hQ := wz_split (n := 6) (gc := [gq_W q ag (am 0) (pz_fact n) (2 ^ b) (32 - b) rl st2 sl2 G2.length, wz_rows 12 rl (fun i9 => .inl (q.1, pz_fact n, .inl (L2 i9))), mv_W q am n k rt fo, wz_rows 12 rt (fun i9 => .inl (q.1, 8, .inl (M i9)))]) (gr := [se_W q as9 n (am 0) (ag 0) r1 r2 (ak 0) (pz_fact n) rw bg sx ro ln wz, bl_W q ak (am 0) (ag 0) 6 (pz_fact n) fk wk rk T.1.length lk dk me ck]) [2, 3, 4, 5] [0, 1] rfl (by decide) rfl rfl hP hD
              refine wz_calli (va_runV (As := [.int (nI (0 + o)), .int (nI j)]) (rest := []) ⟨hx, hb, hml, hown, hts⟩ (c_G_follow l D q ag am n b k rl rt fo st2 sl2 L2 sg tu G2 M od a0 (0 + o) j (pz_it (bl_g n 0 sg tu o) t x) hn hb0 hb30 hM hk hok2 hmv huw hj _) (cwV 2 hts (wz_goodV kw_382 kw_364 kw_365 kw_35 kw_366) rfl rfl rfl (by decide +kernel) ⟨Nat.le_of_ble_eq_true rfl, Nat.le_of_ble_eq_true rfl⟩) (wz_preV (gi := 0) (k := 0) hN hK hQ wz_L_ok rfl rfl rfl) rfl rfl hl.1 rfl (lv_room (Nat.le_of_ble_eq_true rfl)) d_S_leastStep_50 ⟨Nat.le_of_ble_eq_true rfl, Nat.le_of_ble_eq_true rfl⟩) hQ hS hA (fun v_50 gx H locs hp hP hD hS => ?_)
              obtain ⟨G3, st3, sl3, L3, c9, j3, rfl, rfl, rfl, hj3, ⟨Nb, hNb⟩, hok3⟩ := hp
              obtain ⟨Nc, hNc⟩ := hp2
              have hj3 : G3[j3]? = some (pz_it (bl_g n 0 sg tu o) (t + 1) x) := hj3
              have hG3l := gq_len hok3
              have hT3 := bl_more hT2 ⟨Nb, hNb⟩ hok3.1 hG3l
              have hj3l := (List.getElem?_eq_some_iff.mp hj3).1
              obtain ⟨hP, hD⟩ := wz_ord (n := 6) (gs' := [se_W q as9 n (am 0) (ag 0) r1 r2 (ak 0) (pz_fact n) rw bg sx ro ln wz, bl_W q ak (am 0) (ag 0) 6 (pz_fact n) fk wk rk T.1.length lk dk me ck, gq_W q ag (am 0) (pz_fact n) (2 ^ b) (32 - b) rl st3 sl3 G3.length, wz_rows 12 rl (fun i9 => .inl (q.1, pz_fact n, .inl (L3 i9))), mv_W q am n k rt fo, wz_rows 12 rt (fun i9 => .inl (q.1, 8, .inl (M i9)))]) [4, 5, 0, 1, 2, 3] rfl (by decide) rfl hP hD
              refine lv_istore (lv' := [(5, .int (nI j3)), (0, .ref (as9 0)), (1, .int (nI ix)), (2, .int (nI lf)), (3, .int (nI o)), (4, .int (nI (bl_mt me od o))), (6, .int (nI (t + 1)))]) hx hb d_S_leastStep_53 hl (by decide) rfl (fun ls hl => ?_)
              refine lv_aload_n hx hb d_S_leastStep_55 rfl (lv_at hl 1 rfl) ?_
              refine wz_get (v := .ref (ak 0)) (T := T_S) (N := 12) hx hb hts i_S hown hK hP 0 0 rfl rfl rfl 5 (by decide) (hts _ kw_266) rfl rfl d_S_leastStep_56 ?_
              refine wz_getN (v := .ref (ak 1)) (T := T_B) (N := 11) hx hb hts i_B hown hK hP 1 0 rfl rfl rfl 3 (by decide) (hN _ (List.mem_of_getElem? (i := 6) rfl)) rfl rfl d_S_leastStep_59 ?_
              refine lv_iload hx hb d_S_leastStep_62 (lv_at hl 0 rfl) ?_
              refine wz_iald hx hb hK hP 1 1 (j := j3) rfl rfl (by omega) (by omega) d_S_leastStep_64 ?_
              refine wz_topi (y := (bl_fo (T.2.1 (pz_it (bl_g n 0 sg tu o) (t + 1) x)))) (hT3.2.1 j3 _ hj3).1 ?_
              refine lv_iload_n hx hb d_S_leastStep_65 rfl (lv_at hl 3 rfl) ?_
              refine lv_icmp_ne (tgt := 77) hx hb d_S_leastStep_66 (by decide) (fun hc3 => ?_) (fun hc3 => ?_)
              · skip
                refine lv_iinc (v := nI ((t + 1) + 1)) (lv' := [(6, .int (nI ((t + 1) + 1))), (5, .int (nI j3)), (0, .ref (as9 0)), (1, .int (nI ix)), (2, .int (nI lf)), (3, .int (nI o)), (4, .int (nI (bl_mt me od o)))]) hx hb d_S_leastStep_77 hl (k := 6) rfl (nI_1 (t + 1)) (by decide) rfl (fun ls hl => ?_)
                refine lv_goto (tgt := 36) hx hb d_S_leastStep_80 (by decide) ?_
                exact ih2 (t + 1) j3 G3 st3 sl3 L3 (by omega) (by omega) hj3 ⟨Nc ++ Nb, by rw [hNb, hNc, List.append_assoc]⟩ hok3 hT3 (fun t9 q1 q2 => by
                  by_cases e0 : t9 = t + 1
                  · subst e0; exact fun q => hc3 ((bl_fo_s (fun e9 he9 => hlt _ e9 he9) hlf).mpr q)
                  · exact hno2 t9 q1 (by omega)) _ _ _ hP hD hS (lv_sub hl [2, 3, 4, 5, 6, 1, 0] rfl)
              · skip
                refine lv_iload_n hx hb d_S_leastStep_69 rfl (lv_at hl 4 rfl) ?_
                refine lv_bipush (v := nI 15) hx hb d_S_leastStep_70 (by decide) ?_
                refine lv_imul hx hb d_S_leastStep_72 ?_
                refine wz_topi (y := nI (o * 15)) (pk_mul o 15) ?_
                refine lv_iload hx hb d_S_leastStep_73 (lv_at hl 6 rfl) ?_
                refine lv_iadd hx hb d_S_leastStep_75 ?_
                refine wz_topi (y := nI ((o * 15) + (t + 1))) (nI_add (o * 15) (t + 1)) ?_
                exact wz_iret hx hb hr hlocks hK hP hD hS d_S_leastStep_76 ⟨G3, st3, sl3, L3, o, t + 1, rfl, ⟨Nc ++ Nb, by rw [hNb, hNc, List.append_assoc]⟩, hok3, hT3, rfl, hc, by omega, by omega, (bl_fo_s (fun e9 he9 => hlt _ e9 he9) hlf).mp hc3, fun m9 t9 q1 q2 q3 => by
                  rcases q3 with q3 | ⟨q3, q4⟩
                  · exact hno m9 t9 q3 q1 q2
                  · subst q3; exact hno2 t9 q1 (by omega)⟩
        exact inner (bl_mt me od o + 1) 0 ix G1 st1 sl1 L1 (by omega) (by omega) hix1 ⟨Na, hNa⟩ hok1 hT1 (fun t9 q1 q2 => by omega) _ _ _ hP hD hS (lv_sub hl [3, 4, 5, 6, 2, 1, 0] rfl)
  exact outer (k + 1) 0 G st sl L (by omega) (by omega) ⟨[], by simp⟩ hok hblT (fun m9 t9 q1 => by omega) _ _ _ hP hD hS (lv_sub hl [1, 2, 3, 0] rfl)
def po_S_afterStep (q : wz_Q) (as9 ag am : Nat → Nat) (r3 : Nat) (n b k : Nat) (rl rt : Nat → Nat) (fo : Nat → Int32) (M : Nat → Nat → Int32) (sg tu : Nat → Nat → Nat) (od : Nat → Nat) (a0 r1 r2 : Nat) (rw : Nat → Int32) (bg : Int32) (sx ro : Nat) (ln : Int32) (wz : Int64) (G : List Nat) (st sl : Nat → Int32) (L : Nat → Nat → Int32) (x ix o t9 : Nat) : Int32 → wz_G → Prop := fun v w => ∃ (G' : List Nat) (st' sl' : Nat → Int32) (L' : Nat → Nat → Int32) (j : Nat), w = [se_W q as9 n (am 0) (ag 0) r1 r2 r3 (pz_fact n) rw bg sx ro ln wz, gq_W q ag (am 0) (pz_fact n) (2 ^ b) (32 - b) rl st' sl' G'.length, wz_rows 12 rl (fun i9 => .inl (q.1, pz_fact n, .inl (L' i9))), mv_W q am n k rt fo, wz_rows 12 rt (fun i9 => .inl (q.1, 8, .inl (M i9)))] ∧ (∃ Nw, G' = G ++ Nw) ∧ gq_ok n a0 b k sg tu G' st' sl' L' ∧ v = nI j ∧ G'[j]? = some (pz_it (bl_g n 0 sg tu o) t9 x)
set_option maxHeartbeats 4000000 in
set_option maxRecDepth 100000 in
/-- where a step leads -/
theorem c_S_afterStep (l : Launch) (D : va_G) (q : wz_Q) (as9 ag am : Nat → Nat) (r3 : Nat) (n b k : Nat) (rl rt : Nat → Nat) (fo : Nat → Int32) (M : Nat → Nat → Int32) (sg tu : Nat → Nat → Nat) (od : Nat → Nat) (a0 r1 r2 : Nat) (rw : Nat → Int32) (bg : Int32) (sx ro : Nat) (ln : Int32) (wz : Int64) (G : List Nat) (st sl : Nat → Int32) (L : Nat → Nat → Int32) (x ix o t9 : Nat) (hn : n ≤ 8) (hb0 : 0 < b) (hb30 : b ≤ 30) (hM : pz_fact n < 2 ^ b) (hk : k ≤ 6) (hmv : mv_ok n k fo M sg tu od) (hok : gq_ok n a0 b k sg tu G st sl L) (hix : G[ix]? = some x) (ho : o < k) (ht9 : t9 ≤ 14) : wz_Mi l y_S_afterStep ws_S_afterStep ({ frames := 3, cells := 0, slots := 0, locals := 72 } : Room) D q ([.ref (as9 0), .int (nI ix), .int (nI (o * 15 + t9))] : List Value) [se_W q as9 n (am 0) (ag 0) r1 r2 r3 (pz_fact n) rw bg sx ro ln wz, gq_W q ag (am 0) (pz_fact n) (2 ^ b) (32 - b) rl st sl G.length, wz_rows 12 rl (fun i9 => .inl (q.1, pz_fact n, .inl (L i9))), mv_W q am n k rt fo, wz_rows 12 rt (fun i9 => .inl (q.1, 8, .inl (M i9)))] (po_S_afterStep q as9 ag am r3 n b k rl rt fo M sg tu od a0 r1 r2 rw bg sx ro ln wz G st sl L x ix o t9) 0 0 := by
  intro sz9
  refine wz_enter (cc := b_S_afterStep) (maxL := 5) (ret := (some .int)) (Qc := fun A => (va_Qi (po_S_afterStep q as9 ag am r3 n b k rl rt fo M sg tu od a0 r1 r2 rw bg sx ro ln wz G st sl L x ix o t9) (wz_At D q A) A)) (by decide) (Nat.le_of_ble_eq_true rfl) ?_
  intro p e s m below meth c A ls C hP hD hS hl
  obtain ⟨hx, hb, hr, hml, hlocks, hown, hts, hN, hK, hA, hnm⟩ := C
  have hown : s.vm.findClass "TwoEndSearch$Search" = some m.cls := hown
  have hl : lv_has ls 5 [(0, .ref (as9 0)), (1, .int (nI ix)), (2, .int (nI (o * 15 + t9)))] := hl
  have hfl := pz_fact_le hn
  have huw := bl_way hk (Or.inl rfl) ho
  refine lv_iload_n hx hb d_S_afterStep_0 rfl (lv_at hl 1 rfl) ?_
  refine lv_istore_n (lv' := [(3, .int (nI ix)), (0, .ref (as9 0)), (1, .int (nI ix)), (2, .int (nI (o * 15 + t9)))]) hx hb d_S_afterStep_1 rfl hl (by decide) rfl (fun ls hl => ?_)
  refine lv_iconst (v := nI 0) hx hb d_S_afterStep_2 (by decide) ?_
  refine lv_istore (lv' := [(4, .int (nI 0)), (3, .int (nI ix)), (0, .ref (as9 0)), (1, .int (nI ix)), (2, .int (nI (o * 15 + t9)))]) hx hb d_S_afterStep_3 hl (by decide) rfl (fun ls hl => ?_)
  have loop : ∀ (d : Nat) (u j : Nat) (G1 : List Nat) (st1 sl1 : Nat → Int32) (L1 : Nat → Nat → Int32), u ≤ t9 → t9 + 1 ≤ u + d → G1[j]? = some (pz_it (bl_g n 0 sg tu o) u x) → (∃ Nw, G1 = G ++ Nw) → gq_ok n a0 b k sg tu G1 st1 sl1 L1 → ∀ (H : Heap) (locs : List Loc) (ls : Array Slot), va_P D vwCl ([se_W q as9 n (am 0) (ag 0) r1 r2 r3 (pz_fact n) rw bg sx ro ln wz, gq_W q ag (am 0) (pz_fact n) (2 ^ b) (32 - b) rl st1 sl1 G1.length, wz_rows 12 rl (fun i9 => .inl (q.1, pz_fact n, .inl (L1 i9))), mv_W q am n k rt fo, wz_rows 12 rt (fun i9 => .inl (q.1, 8, .inl (M i9)))] : wz_G).flatten H → va_D A ([se_W q as9 n (am 0) (ag 0) r1 r2 r3 (pz_fact n) rw bg sx ro ln wz, gq_W q ag (am 0) (pz_fact n) (2 ^ b) (32 - b) rl st1 sl1 G1.length, wz_rows 12 rl (fun i9 => .inl (q.1, pz_fact n, .inl (L1 i9))), mv_W q am n k rt fo, wz_rows 12 rt (fun i9 => .inl (q.1, 8, .inl (M i9)))] : wz_G).flatten → va_S A s.heap H locs → lv_has ls 5 [(0, .ref (as9 0)), (1, .int (nI ix)), (2, .int (nI (o * 15 + t9))), (3, .int (nI j)), (4, .int (nI u))] → W p l e ({ frames := 3, cells := 0, slots := 0, locals := 72 } : Room) s m ([.ref (as9 0), .int (nI ix), .int (nI (o * 15 + t9))] : List Value).toArray below meth c H locs 0 0 (MQ below (va_Qi (po_S_afterStep q as9 ag am r3 n b k rl rt fo M sg tu od a0 r1 r2 rw bg sx ro ln wz G st sl L x ix o t9) (wz_At D q A) A) ([.ref (as9 0), .int (nI ix), .int (nI (o * 15 + t9))] : List Value).toArray s 0 0 A) (F0 m 5 ls []) := by
    intro d
    induction d with
    | zero =>
      intro u j G1 st1 sl1 L1 hu hd hj hp1 hok1
      omega
    | succ d ih =>
      intro u j G1 st1 sl1 L1 hu hd hj hp1 hok1 H locs ls hP hD hS hl
      refine lv_iload hx hb d_S_afterStep_5 (lv_at hl 4 rfl) ?_
      refine lv_iload_n hx hb d_S_afterStep_7 rfl (lv_at hl 2 rfl) ?_
      refine lv_bipush (v := nI 15) hx hb d_S_afterStep_8 (by decide) ?_
      refine lv_irem hx hb d_S_afterStep_10 (by decide) ?_
      refine wz_topi (y := nI t9) ((pk_rem (by omega) (by omega) (by omega)).trans (congrArg nI (by omega))) ?_
      refine wz_ge (tgt := 33) hx hb d_S_afterStep_11 (by decide) (by omega) (by omega) (fun hc => ?_) (fun hc => ?_)
      · skip
        have hue : u = t9 := by omega
        subst hue
        refine lv_iload_n hx hb d_S_afterStep_33 rfl (lv_at hl 3 rfl) ?_
        exact wz_iret hx hb hr hlocks hK hP hD hS d_S_afterStep_34 ⟨G1, st1, sl1, L1, j, rfl, hp1, hok1, rfl, hj⟩
      · skip
        refine lv_aload_n hx hb d_S_afterStep_14 rfl (lv_at hl 0 rfl) ?_
        refine wz_get (v := .ref (ag 0)) (T := T_S) (N := 12) hx hb hts i_S hown hK hP 0 0 rfl rfl rfl 2 (by decide) (hts _ kw_263) rfl rfl d_S_afterStep_15 ?_
        refine lv_iload_n hx hb d_S_afterStep_18 rfl (lv_at hl 2 rfl) ?_
        refine lv_bipush (v := nI 15) hx hb d_S_afterStep_19 (by decide) ?_
        refine lv_idiv hx hb d_S_afterStep_21 (by decide) ?_
        refine wz_topi (y := nI (0 + o)) ((pk_div (by omega) (by omega) (by omega)).trans (congrArg nI (by omega))) ?_
        refine lv_iload_n hx hb d_S_afterStep_22 rfl (lv_at hl 3 rfl) ?_
        have hQ := wz_split (n := 5) (gc := [gq_W q ag (am 0) (pz_fact n) (2 ^ b) (32 - b) rl st1 sl1 G1.length, wz_rows 12 rl (fun i9 => .inl (q.1, pz_fact n, .inl (L1 i9))), mv_W q am n k rt fo, wz_rows 12 rt (fun i9 => .inl (q.1, 8, .inl (M i9)))]) (gr := [se_W q as9 n (am 0) (ag 0) r1 r2 r3 (pz_fact n) rw bg sx ro ln wz]) [1, 2, 3, 4] [0] rfl (by decide) rfl rfl hP hD
        refine wz_calli (va_runV (As := [.int (nI (0 + o)), .int (nI j)]) (rest := []) ⟨hx, hb, hml, hown, hts⟩ (c_G_follow l D q ag am n b k rl rt fo st1 sl1 L1 sg tu G1 M od a0 (0 + o) j (pz_it (bl_g n 0 sg tu o) u x) hn hb0 hb30 hM hk hok1 hmv huw hj _) (cwV 2 hts (wz_goodV kw_382 kw_364 kw_365 kw_35 kw_366) rfl rfl rfl (by decide +kernel) ⟨Nat.le_of_ble_eq_true rfl, Nat.le_of_ble_eq_true rfl⟩) (wz_preV (gi := 0) (k := 0) hN hK hQ wz_L_ok rfl rfl rfl) rfl rfl hl.1 rfl (lv_room (Nat.le_of_ble_eq_true rfl)) d_S_afterStep_23 ⟨Nat.le_of_ble_eq_true rfl, Nat.le_of_ble_eq_true rfl⟩) hQ hS hA (fun v_23 gx H locs hp hP hD hS => ?_)
        obtain ⟨G3, st3, sl3, L3, c9, j3, rfl, rfl, rfl, hj3, ⟨Nb, hNb⟩, hok3⟩ := hp
        obtain ⟨Nc, hNc⟩ := hp1
        have hj3 : G3[j3]? = some (pz_it (bl_g n 0 sg tu o) (u + 1) x) := hj3
        obtain ⟨hP, hD⟩ := wz_ord (n := 5) (gs' := [se_W q as9 n (am 0) (ag 0) r1 r2 r3 (pz_fact n) rw bg sx ro ln wz, gq_W q ag (am 0) (pz_fact n) (2 ^ b) (32 - b) rl st3 sl3 G3.length, wz_rows 12 rl (fun i9 => .inl (q.1, pz_fact n, .inl (L3 i9))), mv_W q am n k rt fo, wz_rows 12 rt (fun i9 => .inl (q.1, 8, .inl (M i9)))]) [4, 0, 1, 2, 3] rfl (by decide) rfl hP hD
        refine lv_istore_n (lv' := [(3, .int (nI j3)), (0, .ref (as9 0)), (1, .int (nI ix)), (2, .int (nI (o * 15 + t9))), (4, .int (nI u))]) hx hb d_S_afterStep_26 rfl hl (by decide) rfl (fun ls hl => ?_)
        refine lv_iinc (v := nI (u + 1)) (lv' := [(4, .int (nI (u + 1))), (3, .int (nI j3)), (0, .ref (as9 0)), (1, .int (nI ix)), (2, .int (nI (o * 15 + t9)))]) hx hb d_S_afterStep_27 hl (k := 4) rfl (nI_1 u) (by decide) rfl (fun ls hl => ?_)
        refine lv_goto (tgt := 5) hx hb d_S_afterStep_30 (by decide) ?_
        exact ih (u + 1) j3 G3 st3 sl3 L3 (by omega) (by omega) hj3 ⟨Nc ++ Nb, by rw [hNb, hNc, List.append_assoc]⟩ hok3 _ _ _ hP hD hS (lv_sub hl [2, 3, 4, 1, 0] rfl)
  exact loop (t9 + 1) 0 ix G st sl L (by omega) (by omega) hix ⟨[], by simp⟩ hok _ _ _ hP hD hS (lv_sub hl [2, 3, 4, 1, 0] rfl)
def po_S_walkLeastRow (q : wz_Q) (as9 ak ag am : Nat → Nat) (n b k : Nat) (rl rt : Nat → Nat) (fo : Nat → Int32) (M : Nat → Nat → Int32) (sg tu : Nat → Nat → Nat) (od : Nat → Nat) (a0 r1 r2 : Nat) (rw : Nat → Int32) (bg : Int32) (sx ro : Nat) (ln : Int32) (wz : Int64) (G : List Nat) (st sl : Nat → Int32) (L : Nat → Nat → Int32) (T : pz_S) (fk : Nat → Int32) (wk : Nat → Int64) (rk : Nat → Int32) (lk dk : Nat) (me ck : Int32) (sa gl len : Nat) : wz_G → Prop := fun w => ∃ (G' : List Nat) (st' sl' : Nat → Int32) (L' : Nat → Nat → Int32) (rw' : Nat → Int32) (mv9 tm9 X9 : Nat → Nat), w = [se_W q as9 n (am 0) (ag 0) r1 r2 (ak 0) (pz_fact n) rw' bg sx ro ln wz, bl_W q ak (am 0) (ag 0) 6 (pz_fact n) fk wk rk T.1.length lk dk me ck, gq_W q ag (am 0) (pz_fact n) (2 ^ b) (32 - b) rl st' sl' G'.length, wz_rows 12 rl (fun i9 => .inl (q.1, pz_fact n, .inl (L' i9))), mv_W q am n k rt fo, wz_rows 12 rt (fun i9 => .inl (q.1, 8, .inl (M i9)))] ∧ ((∃ Nw, G' = G ++ Nw) ∧ gq_ok n a0 b k sg tu G' st' sl' L') ∧ bl_ok (pz_fact n) G' T fk wk rk ∧ pz_row k (bl_mt me od) (bl_g n 0 sg tu) (pz_dist (bl_s n k 6 sg tu od me) gl) sa len mv9 tm9 X9 ∧ ∀ i, i < len → rw' i = nI (mv9 i * 15 + tm9 i)
set_option maxHeartbeats 4000000 in
set_option maxRecDepth 100000 in
/-- the least shortest row -/
theorem c_S_walkLeastRow (l : Launch) (D : va_G) (q : wz_Q) (as9 ak ag am : Nat → Nat) (n b k : Nat) (rl rt : Nat → Nat) (fo : Nat → Int32) (M : Nat → Nat → Int32) (sg tu : Nat → Nat → Nat) (od : Nat → Nat) (a0 r1 r2 : Nat) (rw : Nat → Int32) (bg : Int32) (sx ro : Nat) (ln : Int32) (wz : Int64) (G : List Nat) (st sl : Nat → Int32) (L : Nat → Nat → Int32) (T : pz_S) (fk : Nat → Int32) (wk : Nat → Int64) (rk : Nat → Int32) (lk dk : Nat) (me ck : Int32) (sa gl len : Nat) (hn : n ≤ 8) (hb0 : 0 < b) (hb30 : b ≤ 30) (hM : pz_fact n < 2 ^ b) (hk : k ≤ 6) (hmv : mv_ok n k fo M sg tu od) (hok : gq_ok n a0 b k sg tu G st sl L) (hblT : bl_ok (pz_fact n) G T fk wk rk) (hrv : ∀ u v, pz_cnt v (bl_s n k 0 sg tu od me u) = pz_cnt u (bl_s n k 6 sg tu od me v)) (hro : G[ro]? = some sa) (hln : ln = nI len) (hlen : len < pz_fact n) (hdist : pz_dist (bl_s n k 0 sg tu od me) sa gl len) (hlt : ∀ y e, T.2.1 y = some e → e < 2 ^ 30) (hTe : ∀ y e, T.2.1 y = some e → pz_dist (bl_s n k 6 sg tu od me) gl y e) (hTa : ∀ y f e, pz_dist (bl_s n k 0 sg tu od me) sa y f → pz_dist (bl_s n k 6 sg tu od me) gl y e → f + e = len → T.2.1 y = some e) : wz_Mv l y_S_walkLeastRow ws_S_walkLeastRow ({ frames := 4, cells := 0, slots := 0, locals := 98 } : Room) D q ([.ref (as9 0)] : List Value) [se_W q as9 n (am 0) (ag 0) r1 r2 (ak 0) (pz_fact n) rw bg sx ro ln wz, bl_W q ak (am 0) (ag 0) 6 (pz_fact n) fk wk rk T.1.length lk dk me ck, gq_W q ag (am 0) (pz_fact n) (2 ^ b) (32 - b) rl st sl G.length, wz_rows 12 rl (fun i9 => .inl (q.1, pz_fact n, .inl (L i9))), mv_W q am n k rt fo, wz_rows 12 rt (fun i9 => .inl (q.1, 8, .inl (M i9)))] (po_S_walkLeastRow q as9 ak ag am n b k rl rt fo M sg tu od a0 r1 r2 rw bg sx ro ln wz G st sl L T fk wk rk lk dk me ck sa gl len) 0 0 := by
  intro sz9
  refine wz_enter (cc := b_S_walkLeastRow) (maxL := 3) (ret := none) (Qc := fun A => (va_Qv (po_S_walkLeastRow q as9 ak ag am n b k rl rt fo M sg tu od a0 r1 r2 rw bg sx ro ln wz G st sl L T fk wk rk lk dk me ck sa gl len) (wz_At D q A) A)) (by decide) (Nat.le_of_ble_eq_true rfl) ?_
  intro p e s m below meth c A ls C hP hD hS hl
  obtain ⟨hx, hb, hr, hml, hlocks, hown, hts, hN, hK, hA, hnm⟩ := C
  have hown : s.vm.findClass "TwoEndSearch$Search" = some m.cls := hown
  have hl : lv_has ls 3 [(0, .ref (as9 0))] := hl
  have hfl := pz_fact_le hn
  subst hln
  refine lv_aload_n hx hb d_S_walkLeastRow_0 rfl (lv_at hl 0 rfl) ?_
  refine wz_get (v := .int (nI ro)) (T := T_S) (N := 12) hx hb hts i_S hown hK hP 0 0 rfl rfl rfl 9 (by decide) (hts _ kw_272) rfl rfl d_S_walkLeastRow_1 ?_
  refine lv_istore_n (lv' := [(1, .int (nI ro)), (0, .ref (as9 0))]) hx hb d_S_walkLeastRow_4 rfl hl (by decide) rfl (fun ls hl => ?_)
  refine lv_iconst (v := nI 0) hx hb d_S_walkLeastRow_5 (by decide) ?_
  refine lv_istore_n (lv' := [(2, .int (nI 0)), (1, .int (nI ro)), (0, .ref (as9 0))]) hx hb d_S_walkLeastRow_6 rfl hl (by decide) rfl (fun ls hl => ?_)
  have loop : ∀ (d : Nat) (i j : Nat) (G1 : List Nat) (st1 sl1 : Nat → Int32) (L1 : Nat → Nat → Int32) (rw1 : Nat → Int32) (mv9 tm9 X9 : Nat → Nat), i ≤ len → len + 1 ≤ i + d → G1[j]? = some (X9 i) → (∃ Nw, G1 = G ++ Nw) → gq_ok n a0 b k sg tu G1 st1 sl1 L1 → bl_ok (pz_fact n) G1 T fk wk rk → X9 0 = sa → (∀ i9, i9 < i → pz_fst k (bl_mt me od) (fun m t => pz_dist (bl_s n k 6 sg tu od me) gl (pz_it (bl_g n 0 sg tu m) t (X9 i9)) (len - i9 - 1)) (mv9 i9) (tm9 i9) ∧ X9 (i9 + 1) = pz_it (bl_g n 0 sg tu (mv9 i9)) (tm9 i9) (X9 i9)) → pz_dist (bl_s n k 0 sg tu od me) sa (X9 i) i → pz_dist (bl_s n k 6 sg tu od me) gl (X9 i) (len - i) → (∀ i9, i9 < i → rw1 i9 = nI (mv9 i9 * 15 + tm9 i9)) → ∀ (H : Heap) (locs : List Loc) (ls : Array Slot), va_P D vwCl ([se_W q as9 n (am 0) (ag 0) r1 r2 (ak 0) (pz_fact n) rw1 bg sx ro (nI len) wz, bl_W q ak (am 0) (ag 0) 6 (pz_fact n) fk wk rk T.1.length lk dk me ck, gq_W q ag (am 0) (pz_fact n) (2 ^ b) (32 - b) rl st1 sl1 G1.length, wz_rows 12 rl (fun i9 => .inl (q.1, pz_fact n, .inl (L1 i9))), mv_W q am n k rt fo, wz_rows 12 rt (fun i9 => .inl (q.1, 8, .inl (M i9)))] : wz_G).flatten H → va_D A ([se_W q as9 n (am 0) (ag 0) r1 r2 (ak 0) (pz_fact n) rw1 bg sx ro (nI len) wz, bl_W q ak (am 0) (ag 0) 6 (pz_fact n) fk wk rk T.1.length lk dk me ck, gq_W q ag (am 0) (pz_fact n) (2 ^ b) (32 - b) rl st1 sl1 G1.length, wz_rows 12 rl (fun i9 => .inl (q.1, pz_fact n, .inl (L1 i9))), mv_W q am n k rt fo, wz_rows 12 rt (fun i9 => .inl (q.1, 8, .inl (M i9)))] : wz_G).flatten → va_S A s.heap H locs → lv_has ls 3 [(0, .ref (as9 0)), (1, .int (nI j)), (2, .int (nI i))] → W p l e ({ frames := 4, cells := 0, slots := 0, locals := 98 } : Room) s m ([.ref (as9 0)] : List Value).toArray below meth c H locs 0 0 (MQ below (va_Qv (po_S_walkLeastRow q as9 ak ag am n b k rl rt fo M sg tu od a0 r1 r2 rw bg sx ro (nI len) wz G st sl L T fk wk rk lk dk me ck sa gl len) (wz_At D q A) A) ([.ref (as9 0)] : List Value).toArray s 0 0 A) (F0 m 7 ls []) := by
    intro d
    induction d with
    | zero =>
      intro i j G1 st1 sl1 L1 rw1 mv9 tm9 X9 hi hd hj hp1 hok1 hT1 hX0 hrow hds hdg hrw
      omega
    | succ d ih =>
      intro i j G1 st1 sl1 L1 rw1 mv9 tm9 X9 hi hd hj hp1 hok1 hT1 hX0 hrow hds hdg hrw H locs ls hP hD hS hl
      refine lv_iload_n hx hb d_S_walkLeastRow_7 rfl (lv_at hl 2 rfl) ?_
      refine lv_aload_n hx hb d_S_walkLeastRow_8 rfl (lv_at hl 0 rfl) ?_
      refine wz_get (v := .int (nI len)) (T := T_S) (N := 12) hx hb hts i_S hown hK hP 0 0 rfl rfl rfl 10 (by decide) (hts _ kw_273) rfl rfl d_S_walkLeastRow_9 ?_
      refine wz_ge (tgt := 61) hx hb d_S_walkLeastRow_12 (by decide) (by omega) (by omega) (fun hc => ?_) (fun hc => ?_)
      · skip
        have hie : i = len := by omega
        subst hie
        exact wz_vret hx hb hr hlocks hK hP hD hS d_S_walkLeastRow_61 ⟨G1, st1, sl1, L1, rw1, mv9, tm9, X9, rfl, ⟨hp1, hok1⟩, hT1, ⟨hX0, hrow⟩, hrw⟩
      · skip
        refine lv_iload_n hx hb d_S_walkLeastRow_15 rfl (lv_at hl 2 rfl) ?_
        refine lv_aload_n hx hb d_S_walkLeastRow_16 rfl (lv_at hl 0 rfl) ?_
        refine wz_get (v := .ref (as9 1)) (T := T_S) (N := 12) hx hb hts i_S hown hK hP 0 0 rfl rfl rfl 6 (by decide) (hts _ kw_267) rfl rfl d_S_walkLeastRow_17 ?_
        refine wz_alen hx hb hK hP 0 1 (n := pz_fact n) rfl rfl d_S_walkLeastRow_20 ?_
        refine wz_ge (tgt := 61) hx hb d_S_walkLeastRow_21 (by decide) (by omega) (by omega) (fun hc2 => ?_) (fun hc2 => ?_)
        · skip
          exfalso; omega
        · skip
          obtain ⟨hex, hiff, hkey⟩ := bl_near hrv hdist hTe hTa hc hds hdg
          refine lv_aload_n hx hb d_S_walkLeastRow_24 rfl (lv_at hl 0 rfl) ?_
          refine wz_get (v := .ref (as9 1)) (T := T_S) (N := 12) hx hb hts i_S hown hK hP 0 0 rfl rfl rfl 6 (by decide) (hts _ kw_267) rfl rfl d_S_walkLeastRow_25 ?_
          refine lv_iload_n hx hb d_S_walkLeastRow_28 rfl (lv_at hl 2 rfl) ?_
          refine lv_aload_n hx hb d_S_walkLeastRow_29 rfl (lv_at hl 0 rfl) ?_
          refine lv_iload_n hx hb d_S_walkLeastRow_30 rfl (lv_at hl 1 rfl) ?_
          refine lv_aload_n hx hb d_S_walkLeastRow_31 rfl (lv_at hl 0 rfl) ?_
          refine wz_get (v := .int (nI len)) (T := T_S) (N := 12) hx hb hts i_S hown hK hP 0 0 rfl rfl rfl 10 (by decide) (hts _ kw_273) rfl rfl d_S_walkLeastRow_32 ?_
          refine lv_iload_n hx hb d_S_walkLeastRow_35 rfl (lv_at hl 2 rfl) ?_
          refine lv_isub hx hb d_S_walkLeastRow_36 ?_
          refine wz_topi (y := nI (len - i)) (pk_sub (by omega)) ?_
          refine lv_iconst (v := nI 1) hx hb d_S_walkLeastRow_37 (by decide) ?_
          refine lv_isub hx hb d_S_walkLeastRow_38 ?_
          refine wz_topi (y := nI (len - i - 1)) (pk_sub (by omega)) ?_
          have hQ := wz_split (n := 6) (gc := [se_W q as9 n (am 0) (ag 0) r1 r2 (ak 0) (pz_fact n) rw1 bg sx ro (nI len) wz, bl_W q ak (am 0) (ag 0) 6 (pz_fact n) fk wk rk T.1.length lk dk me ck, gq_W q ag (am 0) (pz_fact n) (2 ^ b) (32 - b) rl st1 sl1 G1.length, wz_rows 12 rl (fun i9 => .inl (q.1, pz_fact n, .inl (L1 i9))), mv_W q am n k rt fo, wz_rows 12 rt (fun i9 => .inl (q.1, 8, .inl (M i9)))]) (gr := []) [0, 1, 2, 3, 4, 5] [] rfl (by decide) rfl rfl hP hD
          refine wz_calli (va_runV (As := [.int (nI j), .int (nI (len - i - 1))]) (rest := [.int (nI i), .ref (as9 1)]) ⟨hx, hb, hml, hown, hts⟩ (c_S_leastStep l D q as9 ak ag am n b k rl rt fo M sg tu od a0 r1 r2 rw1 bg sx ro (nI len) wz G1 st1 sl1 L1 T fk wk rk lk dk me ck (X9 i) j (len - i - 1) hn hb0 hb30 hM hk hmv hok1 hT1 hj hlt (by omega) hex _) (cwV 2 hts (wz_goodV kw_388 kw_390 kw_13 kw_34 kw_391) rfl rfl rfl (by decide +kernel) ⟨Nat.le_of_ble_eq_true rfl, Nat.le_of_ble_eq_true rfl⟩) (wz_preV (gi := 0) (k := 0) hN hK hQ wz_L_ok rfl rfl rfl) rfl rfl hl.1 rfl (lv_room (Nat.le_of_ble_eq_true rfl)) d_S_walkLeastRow_39 ⟨Nat.le_of_ble_eq_true rfl, Nat.le_of_ble_eq_true rfl⟩) hQ hS hA (fun v_39 gx H locs hp hP hD hS => ?_)
          obtain ⟨G2, st2, sl2, L2, o, t9, rfl, ⟨Nb, hNb⟩, hok2, hT2, rfl, hfst⟩ := hp
          obtain ⟨Na, hNa⟩ := hp1
          have hj2 : G2[j]? = some (X9 i) := by rw [hNb, List.getElem?_append_left (List.getElem?_eq_some_iff.mp hj).1]; exact hj
          have hmt := bl_mt_le (me := me) hmv hfst.1
          have ht914 := hfst.2.2.1
          obtain ⟨hP, hD⟩ := wz_ord (n := 6) (gs' := [se_W q as9 n (am 0) (ag 0) r1 r2 (ak 0) (pz_fact n) rw1 bg sx ro (nI len) wz, bl_W q ak (am 0) (ag 0) 6 (pz_fact n) fk wk rk T.1.length lk dk me ck, gq_W q ag (am 0) (pz_fact n) (2 ^ b) (32 - b) rl st2 sl2 G2.length, wz_rows 12 rl (fun i9 => .inl (q.1, pz_fact n, .inl (L2 i9))), mv_W q am n k rt fo, wz_rows 12 rt (fun i9 => .inl (q.1, 8, .inl (M i9)))]) [0, 1, 2, 3, 4, 5] rfl (by decide) rfl hP hD
          refine wz_iast (gs' := [se_W q as9 n (am 0) (ag 0) r1 r2 (ak 0) (pz_fact n) (upd rw1 i (nI (o * 15 + t9))) bg sx ro (nI len) wz, bl_W q ak (am 0) (ag 0) 6 (pz_fact n) fk wk rk T.1.length lk dk me ck, gq_W q ag (am 0) (pz_fact n) (2 ^ b) (32 - b) rl st2 sl2 G2.length, wz_rows 12 rl (fun i9 => .inl (q.1, pz_fact n, .inl (L2 i9))), mv_W q am n k rt fo, wz_rows 12 rt (fun i9 => .inl (q.1, 8, .inl (M i9)))]) hx hb hK hP hD hS 0 1 (j := i) rfl rfl (by omega) (by omega) d_S_walkLeastRow_42 rfl (fun H locs hP hD hS => ?_)
          refine lv_aload_n hx hb d_S_walkLeastRow_43 rfl (lv_at hl 0 rfl) ?_
          refine lv_iload_n hx hb d_S_walkLeastRow_44 rfl (lv_at hl 1 rfl) ?_
          refine lv_aload_n hx hb d_S_walkLeastRow_45 rfl (lv_at hl 0 rfl) ?_
          refine wz_get (v := .ref (as9 1)) (T := T_S) (N := 12) hx hb hts i_S hown hK hP 0 0 rfl rfl rfl 6 (by decide) (hts _ kw_267) rfl rfl d_S_walkLeastRow_46 ?_
          refine lv_iload_n hx hb d_S_walkLeastRow_49 rfl (lv_at hl 2 rfl) ?_
          refine wz_iald hx hb hK hP 0 1 (j := i) rfl rfl (by omega) (by omega) d_S_walkLeastRow_50 ?_
          refine wz_topi (y := nI (o * 15 + t9)) pk_us ?_
          have hQ := wz_split (n := 6) (gc := [se_W q as9 n (am 0) (ag 0) r1 r2 (ak 0) (pz_fact n) (upd rw1 i (nI (o * 15 + t9))) bg sx ro (nI len) wz, gq_W q ag (am 0) (pz_fact n) (2 ^ b) (32 - b) rl st2 sl2 G2.length, wz_rows 12 rl (fun i9 => .inl (q.1, pz_fact n, .inl (L2 i9))), mv_W q am n k rt fo, wz_rows 12 rt (fun i9 => .inl (q.1, 8, .inl (M i9)))]) (gr := [bl_W q ak (am 0) (ag 0) 6 (pz_fact n) fk wk rk T.1.length lk dk me ck]) [0, 2, 3, 4, 5] [1] rfl (by decide) rfl rfl hP hD
          refine wz_calli (va_runV (As := [.int (nI j), .int (nI (o * 15 + t9))]) (rest := []) ⟨hx, hb, hml, hown, hts⟩ (c_S_afterStep l D q as9 ag am (ak 0) n b k rl rt fo M sg tu od a0 r1 r2 (upd rw1 i (nI (o * 15 + t9))) bg sx ro (nI len) wz G2 st2 sl2 L2 (X9 i) j o t9 hn hb0 hb30 hM hk hmv hok2 hj2 hfst.1 (by omega) _) (cwV 2 hts (wz_goodV kw_392 kw_394 kw_14 kw_34 kw_395) rfl rfl rfl (by decide +kernel) ⟨Nat.le_of_ble_eq_true rfl, Nat.le_of_ble_eq_true rfl⟩) (wz_preV (gi := 0) (k := 0) hN hK hQ wz_L_ok rfl rfl rfl) rfl rfl hl.1 rfl (lv_room (Nat.le_of_ble_eq_true rfl)) d_S_walkLeastRow_51 ⟨Nat.le_of_ble_eq_true rfl, Nat.le_of_ble_eq_true rfl⟩) hQ hS hA (fun v_51 gx H locs hp hP hD hS => ?_)
          obtain ⟨G3, st3, sl3, L3, j3, rfl, ⟨Nc, hNc⟩, hok3, rfl, hj3⟩ := hp
          have hT3 := bl_more hT2 ⟨Nc, hNc⟩ hok3.1 (gq_len hok3)
          have hfst' := pz_fst_of hiff hfst
          have hdg' := hfst'.2.2.2.1
          have hds' := hkey _ (pz_st_mem.mpr ⟨o, t9, hfst.1, hfst.2.1, hfst.2.2.1, rfl⟩) hdg'
          obtain ⟨hP, hD⟩ := wz_ord (n := 6) (gs' := [se_W q as9 n (am 0) (ag 0) r1 r2 (ak 0) (pz_fact n) (upd rw1 i (nI (o * 15 + t9))) bg sx ro (nI len) wz, bl_W q ak (am 0) (ag 0) 6 (pz_fact n) fk wk rk T.1.length lk dk me ck, gq_W q ag (am 0) (pz_fact n) (2 ^ b) (32 - b) rl st3 sl3 G3.length, wz_rows 12 rl (fun i9 => .inl (q.1, pz_fact n, .inl (L3 i9))), mv_W q am n k rt fo, wz_rows 12 rt (fun i9 => .inl (q.1, 8, .inl (M i9)))]) [0, 5, 1, 2, 3, 4] rfl (by decide) rfl hP hD
          refine lv_istore_n (lv' := [(1, .int (nI j3)), (0, .ref (as9 0)), (2, .int (nI i))]) hx hb d_S_walkLeastRow_54 rfl hl (by decide) rfl (fun ls hl => ?_)
          refine lv_iinc (v := nI (i + 1)) (lv' := [(2, .int (nI (i + 1))), (1, .int (nI j3)), (0, .ref (as9 0))]) hx hb d_S_walkLeastRow_55 hl (k := 2) rfl (nI_1 i) (by decide) rfl (fun ls hl => ?_)
          refine lv_goto (tgt := 7) hx hb d_S_walkLeastRow_58 (by decide) ?_
          exact ih (i + 1) j3 G3 st3 sl3 L3 (upd rw1 i (nI (o * 15 + t9))) (pz_up mv9 i o) (pz_up tm9 i t9) (pz_up X9 (i + 1) (pz_it (bl_g n 0 sg tu o) t9 (X9 i))) (by omega) (by omega) (by rw [pz_up_s]; exact hj3) ⟨Na ++ (Nb ++ Nc), by rw [hNc, hNb, hNa, List.append_assoc, List.append_assoc]⟩ hok3 hT3 (by rw [pz_up_n _ _ (by omega)]; exact hX0) (fun i9 hi9 => by
            by_cases e0 : i9 = i
            · subst e0
              rw [pz_up_s, pz_up_s, pz_up_s, pz_up_n _ _ (show i9 ≠ i9 + 1 by omega)]
              exact ⟨hfst', rfl⟩
            · rw [pz_up_n mv9 _ e0, pz_up_n tm9 _ e0, pz_up_n X9 _ (show i9 ≠ i + 1 by omega), pz_up_n X9 _ (show i9 + 1 ≠ i + 1 by omega)]
              exact hrow i9 (by omega)) (by rw [pz_up_s]; exact hds') (by rw [pz_up_s, show len - (i + 1) = len - i - 1 by omega]; exact hdg') (fun i9 hi9 => by
            by_cases e0 : i9 = i
            · subst e0; rw [pk_us, pz_up_s, pz_up_s]
            · rw [pk_un e0, pz_up_n _ _ e0, pz_up_n _ _ e0]; exact hrw i9 (by omega)) _ _ _ hP hD hS (lv_sub hl [2, 1, 0] rfl)
  exact loop (len + 1) 0 ro G st sl L rw (fun _ => 0) (fun _ => 0) (fun _ => sa) (by omega) (by omega) hro ⟨[], by simp⟩ hok hblT rfl (fun i9 q => by omega) (pz_dist_self _ _) (by rw [Nat.sub_zero]; exact pz_dist_rev hrv hdist) (fun i9 q => by omega) _ _ _ hP hD hS (lv_sub hl [2, 1, 0] rfl)
end
section
theorem d_X_tally_0 : decode b_X_tally 0 = .ok (.iconst 0, 1) := by decide +kernel
theorem d_X_tally_1 : decode b_X_tally 1 = .ok (.istore_n 2, 1) := by decide +kernel
theorem d_X_tally_2 : decode b_X_tally 2 = .ok (.iconst 0, 1) := by decide +kernel
theorem d_X_tally_3 : decode b_X_tally 3 = .ok (.istore_n 3, 1) := by decide +kernel
theorem d_X_tally_4 : decode b_X_tally 4 = .ok (.iload_n 3, 1) := by decide +kernel
theorem d_X_tally_5 : decode b_X_tally 5 = .ok (.iload_n 1, 1) := by decide +kernel
theorem d_X_tally_6 : decode b_X_tally 6 = .ok (.if_icmp .ge 28, 3) := by decide +kernel
theorem d_X_tally_9 : decode b_X_tally 9 = .ok (.iload_n 0, 1) := by decide +kernel
theorem d_X_tally_10 : decode b_X_tally 10 = .ok (.iconst 3, 1) := by decide +kernel
theorem d_X_tally_11 : decode b_X_tally 11 = .ok (.iload_n 3, 1) := by decide +kernel
theorem d_X_tally_12 : decode b_X_tally 12 = .ok (.imul, 1) := by decide +kernel
theorem d_X_tally_13 : decode b_X_tally 13 = .ok (.iushr, 1) := by decide +kernel
theorem d_X_tally_14 : decode b_X_tally 14 = .ok (.bipush 7, 2) := by decide +kernel
theorem d_X_tally_16 : decode b_X_tally 16 = .ok (.iand, 1) := by decide +kernel
theorem d_X_tally_17 : decode b_X_tally 17 = .ok (.istore 4, 2) := by decide +kernel
theorem d_X_tally_19 : decode b_X_tally 19 = .ok (.iload_n 2, 1) := by decide +kernel
theorem d_X_tally_20 : decode b_X_tally 20 = .ok (.iconst 1, 1) := by decide +kernel
theorem d_X_tally_21 : decode b_X_tally 21 = .ok (.iconst 4, 1) := by decide +kernel
theorem d_X_tally_22 : decode b_X_tally 22 = .ok (.iload 4, 2) := by decide +kernel
theorem d_X_tally_24 : decode b_X_tally 24 = .ok (.imul, 1) := by decide +kernel
theorem d_X_tally_25 : decode b_X_tally 25 = .ok (.ishl, 1) := by decide +kernel
theorem d_X_tally_26 : decode b_X_tally 26 = .ok (.iadd, 1) := by decide +kernel
theorem d_X_tally_27 : decode b_X_tally 27 = .ok (.istore_n 2, 1) := by decide +kernel
theorem d_X_tally_28 : decode b_X_tally 28 = .ok (.iinc 3 1, 3) := by decide +kernel
theorem d_X_tally_31 : decode b_X_tally 31 = .ok (.goto (-27), 3) := by decide +kernel
theorem d_X_tally_34 : decode b_X_tally 34 = .ok (.iload_n 2, 1) := by decide +kernel
theorem d_X_tally_35 : decode b_X_tally 35 = .ok (.ireturn, 1) := by decide +kernel
theorem d_S_forgetRow_0 : decode b_S_forgetRow 0 = .ok (.aload_n 0, 1) := by decide +kernel
theorem d_S_forgetRow_1 : decode b_S_forgetRow 1 = .ok (.iconst (-1), 1) := by decide +kernel
theorem d_S_forgetRow_2 : decode b_S_forgetRow 2 = .ok (.putfield 9, 3) := by decide +kernel
theorem d_S_forgetRow_5 : decode b_S_forgetRow 5 = .ok (.aload_n 0, 1) := by decide +kernel
theorem d_S_forgetRow_6 : decode b_S_forgetRow 6 = .ok (.lconst 0, 1) := by decide +kernel
theorem d_S_forgetRow_7 : decode b_S_forgetRow 7 = .ok (.putfield 74, 3) := by decide +kernel
theorem d_S_forgetRow_10 : decode b_S_forgetRow 10 = .ok (.return_, 1) := by decide +kernel
theorem d_S_ahead_0 : decode b_S_ahead 0 = .ok (.iload_n 1, 1) := by decide +kernel
theorem d_S_ahead_1 : decode b_S_ahead 1 = .ok (.ifCond .ne 10, 3) := by decide +kernel
theorem d_S_ahead_4 : decode b_S_ahead 4 = .ok (.aload_n 0, 1) := by decide +kernel
theorem d_S_ahead_5 : decode b_S_ahead 5 = .ok (.getfield 40, 3) := by decide +kernel
theorem d_S_ahead_8 : decode b_S_ahead 8 = .ok (.goto 7, 3) := by decide +kernel
theorem d_S_ahead_11 : decode b_S_ahead 11 = .ok (.aload_n 0, 1) := by decide +kernel
theorem d_S_ahead_12 : decode b_S_ahead 12 = .ok (.getfield 44, 3) := by decide +kernel
theorem d_S_ahead_15 : decode b_S_ahead 15 = .ok (.areturn, 1) := by decide +kernel
theorem d_S_begin_0 : decode b_S_begin 0 = .ok (.aload_n 0, 1) := by decide +kernel
theorem d_S_begin_1 : decode b_S_begin 1 = .ok (.getfield 54, 3) := by decide +kernel
theorem d_S_begin_4 : decode b_S_begin 4 = .ok (.ifCond .eq 4, 3) := by decide +kernel
theorem d_S_begin_7 : decode b_S_begin 7 = .ok (.return_, 1) := by decide +kernel
theorem d_S_begin_8 : decode b_S_begin 8 = .ok (.aload_n 0, 1) := by decide +kernel
theorem d_S_begin_9 : decode b_S_begin 9 = .ok (.iload_n 1, 1) := by decide +kernel
theorem d_S_begin_10 : decode b_S_begin 10 = .ok (.putfield 58, 3) := by decide +kernel
theorem d_S_begin_13 : decode b_S_begin 13 = .ok (.aload_n 0, 1) := by decide +kernel
theorem d_S_begin_14 : decode b_S_begin 14 = .ok (.getfield 31, 3) := by decide +kernel
theorem d_S_begin_17 : decode b_S_begin 17 = .ok (.invokevirtual 61, 3) := by decide +kernel
theorem d_S_begin_20 : decode b_S_begin 20 = .ok (.aload_n 0, 1) := by decide +kernel
theorem d_S_begin_21 : decode b_S_begin 21 = .ok (.aload_n 0, 1) := by decide +kernel
theorem d_S_begin_22 : decode b_S_begin 22 = .ok (.getfield 31, 3) := by decide +kernel
theorem d_S_begin_25 : decode b_S_begin 25 = .ok (.iload_n 1, 1) := by decide +kernel
theorem d_S_begin_26 : decode b_S_begin 26 = .ok (.invokevirtual 64, 3) := by decide +kernel
theorem d_S_begin_29 : decode b_S_begin 29 = .ok (.putfield 67, 3) := by decide +kernel
theorem d_S_begin_32 : decode b_S_begin 32 = .ok (.aload_n 0, 1) := by decide +kernel
theorem d_S_begin_33 : decode b_S_begin 33 = .ok (.getfield 40, 3) := by decide +kernel
theorem d_S_begin_36 : decode b_S_begin 36 = .ok (.aload_n 0, 1) := by decide +kernel
theorem d_S_begin_37 : decode b_S_begin 37 = .ok (.getfield 67, 3) := by decide +kernel
theorem d_S_begin_40 : decode b_S_begin 40 = .ok (.iconst 0, 1) := by decide +kernel
theorem d_S_begin_41 : decode b_S_begin 41 = .ok (.invokevirtual 70, 3) := by decide +kernel
theorem d_S_begin_44 : decode b_S_begin 44 = .ok (.aload_n 0, 1) := by decide +kernel
theorem d_S_begin_45 : decode b_S_begin 45 = .ok (.getfield 44, 3) := by decide +kernel
theorem d_S_begin_48 : decode b_S_begin 48 = .ok (.aload_n 0, 1) := by decide +kernel
theorem d_S_begin_49 : decode b_S_begin 49 = .ok (.getfield 67, 3) := by decide +kernel
theorem d_S_begin_52 : decode b_S_begin 52 = .ok (.iconst 1, 1) := by decide +kernel
theorem d_S_begin_53 : decode b_S_begin 53 = .ok (.invokevirtual 70, 3) := by decide +kernel
theorem d_S_begin_56 : decode b_S_begin 56 = .ok (.aload_n 0, 1) := by decide +kernel
theorem d_S_begin_57 : decode b_S_begin 57 = .ok (.iconst 1, 1) := by decide +kernel
theorem d_S_begin_58 : decode b_S_begin 58 = .ok (.putfield 54, 3) := by decide +kernel
theorem d_S_begin_61 : decode b_S_begin 61 = .ok (.return_, 1) := by decide +kernel
theorem kw_264 : (Cond.fieldLink "TwoEndSearch$Search" 40 "TwoEndSearch$Search" "aheadOnce" "LTwoEndSearch$Ball;" : Cond) ∈ bigW := bigW_of 264 (by decide +kernel) (by decide +kernel)
theorem kw_265 : (Cond.fieldLink "TwoEndSearch$Search" 44 "TwoEndSearch$Search" "aheadPowers" "LTwoEndSearch$Ball;" : Cond) ∈ bigW := bigW_of 265 (by decide +kernel) (by decide +kernel)
theorem kw_269 : (Cond.fieldLink "TwoEndSearch$Search" 54 "TwoEndSearch$Search" "begun" "Z" : Cond) ∈ bigW := bigW_of 269 (by decide +kernel) (by decide +kernel)
theorem kw_271 : (Cond.fieldLink "TwoEndSearch$Search" 58 "TwoEndSearch$Search" "start" "I" : Cond) ∈ bigW := bigW_of 271 (by decide +kernel) (by decide +kernel)
theorem kw_275 : (Cond.fieldLink "TwoEndSearch$Search" 74 "TwoEndSearch$Search" "ways" "J" : Cond) ∈ bigW := bigW_of 275 (by decide +kernel) (by decide +kernel)
theorem kw_306 : (Cond.methodLink "TwoEndSearch$Search" 61 ⟨"TwoEndSearch$Graph", "dropAll", "()V"⟩ : Cond) ∈ bigW := bigW_of 306 (by decide +kernel) (by decide +kernel)
theorem kw_307 : (Cond.instanceMethod ⟨"TwoEndSearch$Graph", "dropAll", "()V"⟩ : Cond) ∈ bigW := bigW_of 307 (by decide +kernel) (by decide +kernel)
theorem kw_308 : (Cond.selects "TwoEndSearch$Graph" ⟨"TwoEndSearch$Graph", "dropAll", "()V"⟩ ⟨"TwoEndSearch$Graph", "dropAll", "()V"⟩ : Cond) ∈ bigW := bigW_of 308 (by decide +kernel) (by decide +kernel)
theorem kw_309 : (Cond.code ⟨"TwoEndSearch$Graph", "dropAll", "()V"⟩ prog_3_method_2_code 2 none : Cond) ∈ bigW := bigW_of 309 (by decide +kernel) (by decide +kernel)
theorem kw_315 : (Cond.methodLink "TwoEndSearch$Search" 64 ⟨"TwoEndSearch$Graph", "enter", "(I)I"⟩ : Cond) ∈ bigW := bigW_of 315 (by decide +kernel) (by decide +kernel)
theorem kw_319 : (Cond.methodLink "TwoEndSearch$Search" 70 ⟨"TwoEndSearch$Ball", "begin", "(II)V"⟩ : Cond) ∈ bigW := bigW_of 319 (by decide +kernel) (by decide +kernel)
theorem kw_320 : (Cond.instanceMethod ⟨"TwoEndSearch$Ball", "begin", "(II)V"⟩ : Cond) ∈ bigW := bigW_of 320 (by decide +kernel) (by decide +kernel)
theorem kw_321 : (Cond.selects "TwoEndSearch$Ball" ⟨"TwoEndSearch$Ball", "begin", "(II)V"⟩ ⟨"TwoEndSearch$Ball", "begin", "(II)V"⟩ : Cond) ∈ bigW := bigW_of 321 (by decide +kernel) (by decide +kernel)
theorem kw_322 : (Cond.code ⟨"TwoEndSearch$Ball", "begin", "(II)V"⟩ prog_2_method_2_code 4 none : Cond) ∈ bigW := bigW_of 322 (by decide +kernel) (by decide +kernel)
def po_X_tally (q : wz_Q) (n cd : Nat) : Int32 → wz_G → Prop := fun v w => w = [] ∧ v = nI (pz_tal cd n)
set_option maxHeartbeats 4000000 in
set_option maxRecDepth 100000 in
/-- how often each label is there -/
theorem c_X_tally (l : Launch) (D : va_G) (q : wz_Q) (n cd : Nat) (hn : n ≤ 8) (hcd : cd < 8 ^ n) : wz_Mi l y_X_tally ws_X_tally ({ frames := 0, cells := 0, slots := 0, locals := 0 } : Room) D q ([.int (nI cd), .int (nI n)] : List Value) [] (po_X_tally q n cd) 0 0 := by
  intro sz9
  refine wz_enter (cc := b_X_tally) (maxL := 5) (ret := (some .int)) (Qc := fun A => (va_Qi (po_X_tally q n cd) (wz_At D q A) A)) (by decide) (Nat.le_of_ble_eq_true rfl) ?_
  intro p e s m below meth c A ls C hP hD hS hl
  obtain ⟨hx, hb, hr, hml, hlocks, hown, hts, hN, hK, hA, hnm⟩ := C
  have hown : s.vm.findClass "TwoEndSearch" = some m.cls := hown
  have hl : lv_has ls 5 [(0, .int (nI cd)), (1, .int (nI n))] := hl
  have hc24 := pz_lt31 hn hcd
  refine lv_iconst (v := nI 0) hx hb d_X_tally_0 (by decide) ?_
  refine lv_istore_n (lv' := [(2, .int (nI 0)), (0, .int (nI cd)), (1, .int (nI n))]) hx hb d_X_tally_1 rfl hl (by decide) rfl (fun ls hl => ?_)
  refine lv_iconst (v := nI 0) hx hb d_X_tally_2 (by decide) ?_
  refine lv_istore_n (lv' := [(3, .int (nI 0)), (2, .int (nI 0)), (0, .int (nI cd)), (1, .int (nI n))]) hx hb d_X_tally_3 rfl hl (by decide) rfl (fun ls hl => ?_)
  have loop : ∀ (d : Nat) (i : Nat), i ≤ n → n + 1 ≤ i + d → ∀ (H : Heap) (locs : List Loc) (ls : Array Slot), va_P D vwCl ([] : wz_G).flatten H → va_D A ([] : wz_G).flatten → va_S A s.heap H locs → lv_has ls 5 [(0, .int (nI cd)), (1, .int (nI n)), (2, .int (nI (pz_tal cd i))), (3, .int (nI i))] → W p l e ({ frames := 0, cells := 0, slots := 0, locals := 0 } : Room) s m ([.int (nI cd), .int (nI n)] : List Value).toArray below meth c H locs 0 0 (MQ below (va_Qi (po_X_tally q n cd) (wz_At D q A) A) ([.int (nI cd), .int (nI n)] : List Value).toArray s 0 0 A) (F0 m 4 ls []) := by
    intro d
    induction d with
    | zero =>
      intro i hi hd
      omega
    | succ d ih =>
      intro i hi hd H locs ls hP hD hS hl
      refine lv_iload_n hx hb d_X_tally_4 rfl (lv_at hl 3 rfl) ?_
      refine lv_iload_n hx hb d_X_tally_5 rfl (lv_at hl 1 rfl) ?_
      refine wz_ge (tgt := 34) hx hb d_X_tally_6 (by decide) (by omega) (by omega) (fun hc => ?_) (fun hc => ?_)
      · skip
        have hin : i = n := by omega
        subst hin
        refine lv_iload_n hx hb d_X_tally_34 rfl (lv_at hl 2 rfl) ?_
        exact wz_iret hx hb hr hlocks hK hP hD hS d_X_tally_35 ⟨rfl, rfl⟩
      · skip
        have hdl := pz_divlt hn hcd i
        have hd8 := pz_dg_lt cd i
        refine lv_iload_n hx hb d_X_tally_9 rfl (lv_at hl 0 rfl) ?_
        refine lv_iconst (v := nI 3) hx hb d_X_tally_10 (by decide) ?_
        refine lv_iload_n hx hb d_X_tally_11 rfl (lv_at hl 3 rfl) ?_
        refine lv_imul hx hb d_X_tally_12 ?_
        refine wz_topi (y := nI (3 * i)) (pk_mul 3 i) ?_
        refine lv_iushr (v := nI (cd / 8 ^ i)) hx hb d_X_tally_13 (pz_ushr (by omega) (by omega)) ?_
        refine lv_bipush (v := nI 7) hx hb d_X_tally_14 (by decide) ?_
        refine lv_iand hx hb d_X_tally_16 ?_
        refine wz_topi (y := nI (pz_dg cd i)) (pz_and7 (by omega)) ?_
        refine lv_istore (lv' := [(4, .int (nI (pz_dg cd i))), (0, .int (nI cd)), (1, .int (nI n)), (2, .int (nI (pz_tal cd i))), (3, .int (nI i))]) hx hb d_X_tally_17 hl (by decide) rfl (fun ls hl => ?_)
        refine lv_iload_n hx hb d_X_tally_19 rfl (lv_at hl 3 rfl) ?_
        refine lv_iconst (v := nI 1) hx hb d_X_tally_20 (by decide) ?_
        refine lv_iconst (v := nI 4) hx hb d_X_tally_21 (by decide) ?_
        refine lv_iload hx hb d_X_tally_22 (lv_at hl 0 rfl) ?_
        refine lv_imul hx hb d_X_tally_24 ?_
        refine wz_topi (y := nI (4 * (pz_dg cd i))) (pk_mul 4 (pz_dg cd i)) ?_
        refine lv_ishl hx hb d_X_tally_25 ?_
        refine wz_topi (y := nI (16 ^ pz_dg cd i)) (pz_shl16 hd8) ?_
        refine lv_iadd hx hb d_X_tally_26 ?_
        refine wz_topi (y := nI (pz_tal cd (i + 1))) (nI_add _ _) ?_
        refine lv_istore_n (lv' := [(2, .int (nI (pz_tal cd (i + 1)))), (4, .int (nI (pz_dg cd i))), (0, .int (nI cd)), (1, .int (nI n)), (3, .int (nI i))]) hx hb d_X_tally_27 rfl hl (by decide) rfl (fun ls hl => ?_)
        refine lv_iinc (v := nI (i + 1)) (lv' := [(3, .int (nI (i + 1))), (2, .int (nI (pz_tal cd (i + 1)))), (4, .int (nI (pz_dg cd i))), (0, .int (nI cd)), (1, .int (nI n))]) hx hb d_X_tally_28 hl (k := 4) rfl (nI_1 i) (by decide) rfl (fun ls hl => ?_)
        refine lv_goto (tgt := 4) hx hb d_X_tally_31 (by decide) ?_
        exact ih (i + 1) (by omega) (by omega) _ _ _ hP hD hS (lv_sub hl [3, 4, 1, 0] rfl)
  exact loop (n + 1) 0 (by omega) (by omega) _ _ _ hP hD hS (lv_sub hl [2, 3, 1, 0] rfl)
def po_S_forgetRow (q : wz_Q) (as9 : Nat → Nat) (n mr gr r1 r2 r3 cap : Nat) (rw : Nat → Int32) (bg : Int32) (sx ro : Nat) (ln : Int32) (wz : Int64) : wz_G → Prop := fun w => w = [se_W q as9 n mr gr r1 r2 r3 cap rw bg sx ro (-1) 0]
set_option maxHeartbeats 4000000 in
set_option maxRecDepth 100000 in
/-- no row -/
theorem c_S_forgetRow (l : Launch) (D : va_G) (q : wz_Q) (as9 : Nat → Nat) (n mr gr r1 r2 r3 cap : Nat) (rw : Nat → Int32) (bg : Int32) (sx ro : Nat) (ln : Int32) (wz : Int64)  : wz_Mv l y_S_forgetRow ws_S_forgetRow ({ frames := 0, cells := 0, slots := 0, locals := 0 } : Room) D q ([.ref (as9 0)] : List Value) [se_W q as9 n mr gr r1 r2 r3 cap rw bg sx ro ln wz] (po_S_forgetRow q as9 n mr gr r1 r2 r3 cap rw bg sx ro ln wz) 0 0 := by
  intro sz9
  refine wz_enter (cc := b_S_forgetRow) (maxL := 1) (ret := none) (Qc := fun A => (va_Qv (po_S_forgetRow q as9 n mr gr r1 r2 r3 cap rw bg sx ro ln wz) (wz_At D q A) A)) (by decide) (Nat.le_of_ble_eq_true rfl) ?_
  intro p e s m below meth c A ls C hP hD hS hl
  obtain ⟨hx, hb, hr, hml, hlocks, hown, hts, hN, hK, hA, hnm⟩ := C
  have hown : s.vm.findClass "TwoEndSearch$Search" = some m.cls := hown
  have hl : lv_has ls 1 [(0, .ref (as9 0))] := hl
  refine lv_aload_n hx hb d_S_forgetRow_0 rfl (lv_at hl 0 rfl) ?_
  refine lv_iconst (v := (-1)) hx hb d_S_forgetRow_1 (by decide) ?_
  refine wz_put (gs' := [se_W q as9 n mr gr r1 r2 r3 cap rw bg sx ro (-1) wz]) (v := .int (-1)) (T := T_S) (N := 12) hx hb hts i_S t_S t_S_ok n_S hown hK hP hD hS 0 0 rfl rfl rfl 10 (by decide) (hts _ kw_273) rfl rfl (ty := t_S 10) (by decide +kernel) rfl rfl (Nat.le_of_ble_eq_true rfl) d_S_forgetRow_2 rfl (fun H locs hP hD hS => ?_)
  refine lv_aload_n hx hb d_S_forgetRow_5 rfl (lv_at hl 0 rfl) ?_
  refine lv_lconst (v := 0) hx hb d_S_forgetRow_6 rfl ?_
  refine wz_put (gs' := [se_W q as9 n mr gr r1 r2 r3 cap rw bg sx ro (-1) 0]) (v := .long 0) (T := T_S) (N := 12) hx hb hts i_S t_S t_S_ok n_S hown hK hP hD hS 0 0 rfl rfl rfl 11 (by decide) (hts _ kw_275) rfl rfl (ty := t_S 11) (by decide +kernel) rfl rfl (Nat.le_of_ble_eq_true rfl) d_S_forgetRow_7 rfl (fun H locs hP hD hS => ?_)
  exact wz_vret hx hb hr hlocks hK hP hD hS d_S_forgetRow_10 rfl
def po_S_ahead (q : wz_Q) (as9 : Nat → Nat) (n mr gr r1 r2 r3 cap : Nat) (rw : Nat → Int32) (bg : Int32) (sx ro : Nat) (ln : Int32) (wz : Int64) (x : Int32) : Nat → wz_G → Prop := fun v w => w = [se_W q as9 n mr gr r1 r2 r3 cap rw bg sx ro ln wz] ∧ v = if x = 0 then r1 else r2
set_option maxHeartbeats 4000000 in
set_option maxRecDepth 100000 in
/-- the ball of a measure -/
theorem c_S_ahead (l : Launch) (D : va_G) (q : wz_Q) (as9 : Nat → Nat) (n mr gr r1 r2 r3 cap : Nat) (rw : Nat → Int32) (bg : Int32) (sx ro : Nat) (ln : Int32) (wz : Int64) (x : Int32)  : wz_Mr l y_S_ahead ws_S_ahead ({ frames := 0, cells := 0, slots := 0, locals := 0 } : Room) D q ([.ref (as9 0), .int x] : List Value) [se_W q as9 n mr gr r1 r2 r3 cap rw bg sx ro ln wz] (po_S_ahead q as9 n mr gr r1 r2 r3 cap rw bg sx ro ln wz x) 0 0 := by
  intro sz9
  refine wz_enter (cc := b_S_ahead) (maxL := 2) (ret := (some (.object "TwoEndSearch$Ball"))) (Qc := fun A => (va_Qr (fun u : Nat × wz_G => (po_S_ahead q as9 n mr gr r1 r2 r3 cap rw bg sx ro ln wz x) u.1 u.2) (fun u a t => a = u.1 ∧ wz_At D q A u.2 t) A)) (by decide) (Nat.le_of_ble_eq_true rfl) ?_
  intro p e s m below meth c A ls C hP hD hS hl
  obtain ⟨hx, hb, hr, hml, hlocks, hown, hts, hN, hK, hA, hnm⟩ := C
  have hown : s.vm.findClass "TwoEndSearch$Search" = some m.cls := hown
  have hl : lv_has ls 2 [(0, .ref (as9 0)), (1, .int x)] := hl
  refine lv_iload_n hx hb d_S_ahead_0 rfl (lv_at hl 1 rfl) ?_
  refine lv_if_ne (tgt := 11) hx hb d_S_ahead_1 (by decide) (fun hc => ?_) (fun hc => ?_)
  · skip
    refine lv_aload_n hx hb d_S_ahead_11 rfl (lv_at hl 0 rfl) ?_
    refine wz_get (v := .ref r2) (T := T_S) (N := 12) hx hb hts i_S hown hK hP 0 0 rfl rfl rfl 4 (by decide) (hts _ kw_265) rfl rfl d_S_ahead_12 ?_
    exact wz_aret hx hb hr ⟨_, rfl⟩ hlocks hK hP hD hS d_S_ahead_15 ⟨rfl, (if_neg hc).symm⟩
  · skip
    refine lv_aload_n hx hb d_S_ahead_4 rfl (lv_at hl 0 rfl) ?_
    refine wz_get (v := .ref r1) (T := T_S) (N := 12) hx hb hts i_S hown hK hP 0 0 rfl rfl rfl 3 (by decide) (hts _ kw_264) rfl rfl d_S_ahead_5 ?_
    refine lv_goto (tgt := 15) hx hb d_S_ahead_8 (by decide) ?_
    exact wz_aret hx hb hr ⟨_, rfl⟩ hlocks hK hP hD hS d_S_ahead_15 ⟨rfl, (if_pos hc).symm⟩
def po_S_begin1 (q : wz_Q) (as9 : Nat → Nat) (n mr gr r1 r2 r3 cap : Nat) (rw : Nat → Int32) (bg : Int32) (sx ro : Nat) (ln : Int32) (wz : Int64) (x : Int32) : wz_G → Prop := fun w => w = [se_W q as9 n mr gr r1 r2 r3 cap rw bg sx ro ln wz]
set_option maxHeartbeats 4000000 in
set_option maxRecDepth 100000 in
/-- begun already -/
theorem c_S_begin1 (l : Launch) (D : va_G) (q : wz_Q) (as9 : Nat → Nat) (n mr gr r1 r2 r3 cap : Nat) (rw : Nat → Int32) (bg : Int32) (sx ro : Nat) (ln : Int32) (wz : Int64) (x : Int32) (hbg : bg = nI 1) : wz_Mv l y_S_begin ws_S_begin ({ frames := 2, cells := 0, slots := 0, locals := 47 } : Room) D q ([.ref (as9 0), .int x] : List Value) [se_W q as9 n mr gr r1 r2 r3 cap rw bg sx ro ln wz] (po_S_begin1 q as9 n mr gr r1 r2 r3 cap rw bg sx ro ln wz x) 0 0 := by
  intro sz9
  refine wz_enter (cc := b_S_begin) (maxL := 2) (ret := none) (Qc := fun A => (va_Qv (po_S_begin1 q as9 n mr gr r1 r2 r3 cap rw bg sx ro ln wz x) (wz_At D q A) A)) (by decide) (Nat.le_of_ble_eq_true rfl) ?_
  intro p e s m below meth c A ls C hP hD hS hl
  obtain ⟨hx, hb, hr, hml, hlocks, hown, hts, hN, hK, hA, hnm⟩ := C
  have hown : s.vm.findClass "TwoEndSearch$Search" = some m.cls := hown
  have hl : lv_has ls 2 [(0, .ref (as9 0)), (1, .int x)] := hl
  subst hbg
  refine lv_aload_n hx hb d_S_begin_0 rfl (lv_at hl 0 rfl) ?_
  refine wz_get (v := .int (nI 1)) (T := T_S) (N := 12) hx hb hts i_S hown hK hP 0 0 rfl rfl rfl 7 (by decide) (hts _ kw_269) rfl rfl d_S_begin_1 ?_
  refine lv_if_eq (tgt := 8) hx hb d_S_begin_4 (by decide) (fun hc => ?_) (fun hc => ?_)
  · skip
    exact absurd hc (by decide)
  · skip
    exact wz_vret hx hb hr hlocks hK hP hD hS d_S_begin_7 rfl
def po_S_begin0 (q : wz_Q) (as9 ab ac ag am : Nat → Nat) (n b k r3 : Nat) (rl rt : Nat → Nat) (fo : Nat → Int32) (sg tu : Nat → Nat → Nat) (rw : Nat → Int32) (bg : Int32) (sx ro : Nat) (ln : Int32) (wz : Int64) (G : List Nat) (st sl : Nat → Int32) (sf : Nat → Nat) (L : Nat → Nat → Int32) (f1 : Nat → Int32) (w1 : Nat → Int64) (e1 : Nat → Int32) (z1 y1 d1 : Nat) (m1 c1 : Int32) (f2 : Nat → Int32) (w2 : Nat → Int64) (e2 : Nat → Int32) (z2 y2 d2 : Nat) (m2 c2 : Int32) (sa : Nat) : wz_G → Prop := fun w => ∃ (G' : List Nat) (st' sl' : Nat → Int32) (L' : Nat → Nat → Int32) (c9 ro' : Nat) (f1' : Nat → Int32) (w1' : Nat → Int64) (e1' f2' : Nat → Int32) (w2' : Nat → Int64) (e2' : Nat → Int32), w = [se_W q as9 n (am 0) (ag 0) (ab 0) (ac 0) r3 (pz_fact n) rw (nI 1) sa ro' ln wz, bl_W q ab (am 0) (ag 0) 0 (pz_fact n) f1' w1' e1' 1 0 0 (nI 0) (nI 0), bl_W q ac (am 0) (ag 0) 0 (pz_fact n) f2' w2' e2' 1 0 0 (nI 1) (nI 0), gq_W q ag (am 0) (pz_fact n) (2 ^ b) (32 - b) rl st' sl' c9, wz_rows 12 rl (fun i9 => .inl (q.1, pz_fact n, .inl (L' i9))), mv_W q am n k rt fo] ∧ c9 = G'.length ∧ gq_ok n sa b k sg tu G' st' sl' L' ∧ G'[ro']? = some sa ∧ bl_ok (pz_fact n) G' (pz_S0 sa) f1' w1' e1' ∧ bl_ok (pz_fact n) G' (pz_S0 sa) f2' w2' e2'
set_option maxHeartbeats 4000000 in
set_option maxRecDepth 100000 in
/-- the graph and the balls are begun -/
theorem c_S_begin0 (l : Launch) (D : va_G) (q : wz_Q) (as9 ab ac ag am : Nat → Nat) (n b k r3 : Nat) (rl rt : Nat → Nat) (fo : Nat → Int32) (sg tu : Nat → Nat → Nat) (rw : Nat → Int32) (bg : Int32) (sx ro : Nat) (ln : Int32) (wz : Int64) (G : List Nat) (st sl : Nat → Int32) (sf : Nat → Nat) (L : Nat → Nat → Int32) (f1 : Nat → Int32) (w1 : Nat → Int64) (e1 : Nat → Int32) (z1 y1 d1 : Nat) (m1 c1 : Int32) (f2 : Nat → Int32) (w2 : Nat → Int64) (e2 : Nat → Int32) (z2 y2 d2 : Nat) (m2 c2 : Int32) (sa : Nat) (hn : n ≤ 8) (hb0 : 0 < b) (hb30 : b ≤ 30) (hM : pz_fact n < 2 ^ b) (hk : k ≤ 6) (hst : ∀ i x, G[i]? = some x → st i = nI x) (hsl : ∀ j, j < 2 ^ b → sl j = nI (sf j)) (ht : pz_ht (2 ^ b) (gq_hh b) G sf) (hG : G.length ≤ pz_fact n) (hx24 : ∀ x, x ∈ G → x < 2 ^ 24) (hnd : G.Nodup) (hw1 : bl_raw (pz_fact n) f1 e1 z1) (hw2 : bl_raw (pz_fact n) f2 e2 z2) (hbg : bg = nI 0) (hsa : sa < 8 ^ n) : wz_Mv l y_S_begin ws_S_begin ({ frames := 2, cells := 0, slots := 0, locals := 47 } : Room) D q ([.ref (as9 0), .int (nI sa)] : List Value) [se_W q as9 n (am 0) (ag 0) (ab 0) (ac 0) r3 (pz_fact n) rw bg sx ro ln wz, bl_W q ab (am 0) (ag 0) 0 (pz_fact n) f1 w1 e1 z1 y1 d1 m1 c1, bl_W q ac (am 0) (ag 0) 0 (pz_fact n) f2 w2 e2 z2 y2 d2 m2 c2, gq_W q ag (am 0) (pz_fact n) (2 ^ b) (32 - b) rl st sl G.length, wz_rows 12 rl (fun i9 => .inl (q.1, pz_fact n, .inl (L i9))), mv_W q am n k rt fo] (po_S_begin0 q as9 ab ac ag am n b k r3 rl rt fo sg tu rw bg sx ro ln wz G st sl sf L f1 w1 e1 z1 y1 d1 m1 c1 f2 w2 e2 z2 y2 d2 m2 c2 sa) 0 0 := by
  intro sz9
  refine wz_enter (cc := b_S_begin) (maxL := 2) (ret := none) (Qc := fun A => (va_Qv (po_S_begin0 q as9 ab ac ag am n b k r3 rl rt fo sg tu rw bg sx ro ln wz G st sl sf L f1 w1 e1 z1 y1 d1 m1 c1 f2 w2 e2 z2 y2 d2 m2 c2 sa) (wz_At D q A) A)) (by decide) (Nat.le_of_ble_eq_true rfl) ?_
  intro p e s m below meth c A ls C hP hD hS hl
  obtain ⟨hx, hb, hr, hml, hlocks, hown, hts, hN, hK, hA, hnm⟩ := C
  have hown : s.vm.findClass "TwoEndSearch$Search" = some m.cls := hown
  have hl : lv_has ls 2 [(0, .ref (as9 0)), (1, .int (nI sa))] := hl
  have hfl := pz_fact_le hn
  have hp0 : 0 < 2 ^ b := Nat.pow_pos (by decide)
  subst hbg
  refine lv_aload_n hx hb d_S_begin_0 rfl (lv_at hl 0 rfl) ?_
  refine wz_get (v := .int (nI 0)) (T := T_S) (N := 12) hx hb hts i_S hown hK hP 0 0 rfl rfl rfl 7 (by decide) (hts _ kw_269) rfl rfl d_S_begin_1 ?_
  refine lv_if_eq (tgt := 8) hx hb d_S_begin_4 (by decide) (fun hc => ?_) (fun hc => ?_)
  · skip
    refine lv_aload_n hx hb d_S_begin_8 rfl (lv_at hl 0 rfl) ?_
    refine lv_iload_n hx hb d_S_begin_9 rfl (lv_at hl 1 rfl) ?_
    refine wz_put (gs' := [se_W q as9 n (am 0) (ag 0) (ab 0) (ac 0) r3 (pz_fact n) rw (nI 0) sa ro ln wz, bl_W q ab (am 0) (ag 0) 0 (pz_fact n) f1 w1 e1 z1 y1 d1 m1 c1, bl_W q ac (am 0) (ag 0) 0 (pz_fact n) f2 w2 e2 z2 y2 d2 m2 c2, gq_W q ag (am 0) (pz_fact n) (2 ^ b) (32 - b) rl st sl G.length, wz_rows 12 rl (fun i9 => .inl (q.1, pz_fact n, .inl (L i9))), mv_W q am n k rt fo]) (v := .int (nI sa)) (T := T_S) (N := 12) hx hb hts i_S t_S t_S_ok n_S hown hK hP hD hS 0 0 rfl rfl rfl 8 (by decide) (hts _ kw_271) rfl rfl (ty := t_S 8) (by decide +kernel) rfl rfl (Nat.le_of_ble_eq_true rfl) d_S_begin_10 rfl (fun H locs hP hD hS => ?_)
    refine lv_aload_n hx hb d_S_begin_13 rfl (lv_at hl 0 rfl) ?_
    refine wz_get (v := .ref (ag 0)) (T := T_S) (N := 12) hx hb hts i_S hown hK hP 0 0 rfl rfl rfl 2 (by decide) (hts _ kw_263) rfl rfl d_S_begin_14 ?_
    have hQ := wz_split (n := 6) (gc := [gq_W q ag (am 0) (pz_fact n) (2 ^ b) (32 - b) rl st sl G.length]) (gr := [se_W q as9 n (am 0) (ag 0) (ab 0) (ac 0) r3 (pz_fact n) rw (nI 0) sa ro ln wz, bl_W q ab (am 0) (ag 0) 0 (pz_fact n) f1 w1 e1 z1 y1 d1 m1 c1, bl_W q ac (am 0) (ag 0) 0 (pz_fact n) f2 w2 e2 z2 y2 d2 m2 c2, wz_rows 12 rl (fun i9 => .inl (q.1, pz_fact n, .inl (L i9))), mv_W q am n k rt fo]) [3] [0, 1, 2, 4, 5] rfl (by decide) rfl rfl hP hD
    refine wz_callv (va_runV (As := []) (rest := []) ⟨hx, hb, hml, hown, hts⟩ (c_G_dropAll l D q ag (am 0) n b rl st sl G sf hn hb0 hb30 hM hst hsl ht hG hx24 hnd _) (cwV 0 hts (wz_goodV kw_306 kw_307 kw_308 kw_35 kw_309) rfl rfl rfl (by decide +kernel) ⟨Nat.le_of_ble_eq_true rfl, Nat.le_of_ble_eq_true rfl⟩) (wz_preV (gi := 0) (k := 0) hN hK hQ wz_L_ok rfl rfl rfl) rfl rfl hl.1 rfl (lv_room (Nat.le_of_ble_eq_true rfl)) d_S_begin_17 ⟨Nat.le_of_ble_eq_true rfl, Nat.le_of_ble_eq_true rfl⟩) hQ hS hA (fun gx H locs hp hP hD hS => ?_)
    obtain ⟨sl2, s2, rfl, hsl2, ht2⟩ := hp
    obtain ⟨hP, hD⟩ := wz_ord (n := 6) (gs' := [se_W q as9 n (am 0) (ag 0) (ab 0) (ac 0) r3 (pz_fact n) rw (nI 0) sa ro ln wz, bl_W q ab (am 0) (ag 0) 0 (pz_fact n) f1 w1 e1 z1 y1 d1 m1 c1, bl_W q ac (am 0) (ag 0) 0 (pz_fact n) f2 w2 e2 z2 y2 d2 m2 c2, gq_W q ag (am 0) (pz_fact n) (2 ^ b) (32 - b) rl st sl2 0, wz_rows 12 rl (fun i9 => .inl (q.1, pz_fact n, .inl (L i9))), mv_W q am n k rt fo]) [1, 2, 3, 0, 4, 5] rfl (by decide) rfl hP hD
    have hok0 : gq_ok n sa b k sg tu [] st sl2 L := ⟨List.nodup_nil, fun x h9 => absurd h9 List.not_mem_nil, fun i x h9 => by simp at h9, ⟨s2, hsl2, ht2⟩, fun u i x _ h9 => by simp at h9⟩
    refine lv_aload_n hx hb d_S_begin_20 rfl (lv_at hl 0 rfl) ?_
    refine lv_aload_n hx hb d_S_begin_21 rfl (lv_at hl 0 rfl) ?_
    refine wz_get (v := .ref (ag 0)) (T := T_S) (N := 12) hx hb hts i_S hown hK hP 0 0 rfl rfl rfl 2 (by decide) (hts _ kw_263) rfl rfl d_S_begin_22 ?_
    refine lv_iload_n hx hb d_S_begin_25 rfl (lv_at hl 1 rfl) ?_
    have hP : va_P D vwCl ([se_W q as9 n (am 0) (ag 0) (ab 0) (ac 0) r3 (pz_fact n) rw (nI 0) sa ro ln wz, bl_W q ab (am 0) (ag 0) 0 (pz_fact n) f1 w1 e1 z1 y1 d1 m1 c1, bl_W q ac (am 0) (ag 0) 0 (pz_fact n) f2 w2 e2 z2 y2 d2 m2 c2, gq_W q ag (am 0) (pz_fact n) (2 ^ b) (32 - b) rl st sl2 (([] : List Nat).length), wz_rows 12 rl (fun i9 => .inl (q.1, pz_fact n, .inl (L i9))), mv_W q am n k rt fo] : wz_G).flatten H := hP
    have hD : va_D A ([se_W q as9 n (am 0) (ag 0) (ab 0) (ac 0) r3 (pz_fact n) rw (nI 0) sa ro ln wz, bl_W q ab (am 0) (ag 0) 0 (pz_fact n) f1 w1 e1 z1 y1 d1 m1 c1, bl_W q ac (am 0) (ag 0) 0 (pz_fact n) f2 w2 e2 z2 y2 d2 m2 c2, gq_W q ag (am 0) (pz_fact n) (2 ^ b) (32 - b) rl st sl2 (([] : List Nat).length), wz_rows 12 rl (fun i9 => .inl (q.1, pz_fact n, .inl (L i9))), mv_W q am n k rt fo] : wz_G).flatten := hD
    have hQ := wz_split (n := 6) (gc := [gq_W q ag (am 0) (pz_fact n) (2 ^ b) (32 - b) rl st sl2 (([] : List Nat).length), wz_rows 12 rl (fun i9 => .inl (q.1, pz_fact n, .inl (L i9))), mv_W q am n k rt fo]) (gr := [se_W q as9 n (am 0) (ag 0) (ab 0) (ac 0) r3 (pz_fact n) rw (nI 0) sa ro ln wz, bl_W q ab (am 0) (ag 0) 0 (pz_fact n) f1 w1 e1 z1 y1 d1 m1 c1, bl_W q ac (am 0) (ag 0) 0 (pz_fact n) f2 w2 e2 z2 y2 d2 m2 c2]) [3, 4, 5] [0, 1, 2] rfl (by decide) rfl rfl hP hD
    refine wz_calli (va_runV (As := [.int (nI sa)]) (rest := [.ref (as9 0)]) ⟨hx, hb, hml, hown, hts⟩ (c_G_enter l D q ag am n b k rl rt fo st sl2 L sg tu [] sa sa hn hb0 hb30 hM hk hok0 (pz_arr_self hsa) _) (cwV 1 hts (wz_goodV kw_315 kw_316 kw_317 kw_35 kw_318) rfl rfl rfl (by decide +kernel) ⟨Nat.le_of_ble_eq_true rfl, Nat.le_of_ble_eq_true rfl⟩) (wz_preV (gi := 0) (k := 0) hN hK hQ wz_L_ok rfl rfl rfl) rfl rfl hl.1 rfl (lv_room (Nat.le_of_ble_eq_true rfl)) d_S_begin_26 ⟨Nat.le_of_ble_eq_true rfl, Nat.le_of_ble_eq_true rfl⟩) hQ hS hA (fun v_26 gx H locs hp hP hD hS => ?_)
    obtain ⟨G', st', sl', L', c9, j, rfl, rfl, rfl, hj, -, hok'⟩ := hp
    have hGl' := gq_len hok'
    have hjl := (List.getElem?_eq_some_iff.mp hj).1
    obtain ⟨hP, hD⟩ := wz_ord (n := 6) (gs' := [se_W q as9 n (am 0) (ag 0) (ab 0) (ac 0) r3 (pz_fact n) rw (nI 0) sa ro ln wz, bl_W q ab (am 0) (ag 0) 0 (pz_fact n) f1 w1 e1 z1 y1 d1 m1 c1, bl_W q ac (am 0) (ag 0) 0 (pz_fact n) f2 w2 e2 z2 y2 d2 m2 c2, gq_W q ag (am 0) (pz_fact n) (2 ^ b) (32 - b) rl st' sl' G'.length, wz_rows 12 rl (fun i9 => .inl (q.1, pz_fact n, .inl (L' i9))), mv_W q am n k rt fo]) [3, 4, 5, 0, 1, 2] rfl (by decide) rfl hP hD
    refine wz_put (gs' := [se_W q as9 n (am 0) (ag 0) (ab 0) (ac 0) r3 (pz_fact n) rw (nI 0) sa j ln wz, bl_W q ab (am 0) (ag 0) 0 (pz_fact n) f1 w1 e1 z1 y1 d1 m1 c1, bl_W q ac (am 0) (ag 0) 0 (pz_fact n) f2 w2 e2 z2 y2 d2 m2 c2, gq_W q ag (am 0) (pz_fact n) (2 ^ b) (32 - b) rl st' sl' G'.length, wz_rows 12 rl (fun i9 => .inl (q.1, pz_fact n, .inl (L' i9))), mv_W q am n k rt fo]) (v := .int (nI j)) (T := T_S) (N := 12) hx hb hts i_S t_S t_S_ok n_S hown hK hP hD hS 0 0 rfl rfl rfl 9 (by decide) (hts _ kw_272) rfl rfl (ty := t_S 9) (by decide +kernel) rfl rfl (Nat.le_of_ble_eq_true rfl) d_S_begin_29 rfl (fun H locs hP hD hS => ?_)
    refine lv_aload_n hx hb d_S_begin_32 rfl (lv_at hl 0 rfl) ?_
    refine wz_get (v := .ref (ab 0)) (T := T_S) (N := 12) hx hb hts i_S hown hK hP 0 0 rfl rfl rfl 3 (by decide) (hts _ kw_264) rfl rfl d_S_begin_33 ?_
    refine lv_aload_n hx hb d_S_begin_36 rfl (lv_at hl 0 rfl) ?_
    refine wz_get (v := .int (nI j)) (T := T_S) (N := 12) hx hb hts i_S hown hK hP 0 0 rfl rfl rfl 9 (by decide) (hts _ kw_272) rfl rfl d_S_begin_37 ?_
    refine lv_iconst (v := nI 0) hx hb d_S_begin_40 (by decide) ?_
    have hQ := wz_split (n := 6) (gc := [bl_W q ab (am 0) (ag 0) 0 (pz_fact n) f1 w1 e1 z1 y1 d1 m1 c1]) (gr := [se_W q as9 n (am 0) (ag 0) (ab 0) (ac 0) r3 (pz_fact n) rw (nI 0) sa j ln wz, bl_W q ac (am 0) (ag 0) 0 (pz_fact n) f2 w2 e2 z2 y2 d2 m2 c2, gq_W q ag (am 0) (pz_fact n) (2 ^ b) (32 - b) rl st' sl' G'.length, wz_rows 12 rl (fun i9 => .inl (q.1, pz_fact n, .inl (L' i9))), mv_W q am n k rt fo]) [1] [0, 2, 3, 4, 5] rfl (by decide) rfl rfl hP hD
    refine wz_callv (va_runV (As := [.int (nI j), .int (nI 0)]) (rest := []) ⟨hx, hb, hml, hown, hts⟩ (c_B_begin l D q ab (am 0) (ag 0) 0 (pz_fact n) f1 w1 e1 z1 y1 d1 m1 c1 j (nI 0) (by omega) (by omega) hw1 _) (cwV 2 hts (wz_goodV kw_319 kw_320 kw_321 kw_36 kw_322) rfl rfl rfl (by decide +kernel) ⟨Nat.le_of_ble_eq_true rfl, Nat.le_of_ble_eq_true rfl⟩) (wz_preV (gi := 0) (k := 0) hN hK hQ wz_L_ok rfl rfl rfl) rfl rfl hl.1 rfl (lv_room (Nat.le_of_ble_eq_true rfl)) d_S_begin_41 ⟨Nat.le_of_ble_eq_true rfl, Nat.le_of_ble_eq_true rfl⟩) hQ hS hA (fun gx H locs hp hP hD hS => ?_)
    obtain ⟨g1, hg1, rfl⟩ := hp
    obtain ⟨hP, hD⟩ := wz_ord (n := 6) (gs' := [se_W q as9 n (am 0) (ag 0) (ab 0) (ac 0) r3 (pz_fact n) rw (nI 0) sa j ln wz, bl_W q ab (am 0) (ag 0) 0 (pz_fact n) (upd g1 j (nI 0)) (vp_updL (vp_updL w1 j 0) j 1) (upd e1 0 (nI j)) 1 0 0 (nI 0) (nI 0), bl_W q ac (am 0) (ag 0) 0 (pz_fact n) f2 w2 e2 z2 y2 d2 m2 c2, gq_W q ag (am 0) (pz_fact n) (2 ^ b) (32 - b) rl st' sl' G'.length, wz_rows 12 rl (fun i9 => .inl (q.1, pz_fact n, .inl (L' i9))), mv_W q am n k rt fo]) [1, 0, 2, 3, 4, 5] rfl (by decide) rfl hP hD
    refine lv_aload_n hx hb d_S_begin_44 rfl (lv_at hl 0 rfl) ?_
    refine wz_get (v := .ref (ac 0)) (T := T_S) (N := 12) hx hb hts i_S hown hK hP 0 0 rfl rfl rfl 4 (by decide) (hts _ kw_265) rfl rfl d_S_begin_45 ?_
    refine lv_aload_n hx hb d_S_begin_48 rfl (lv_at hl 0 rfl) ?_
    refine wz_get (v := .int (nI j)) (T := T_S) (N := 12) hx hb hts i_S hown hK hP 0 0 rfl rfl rfl 9 (by decide) (hts _ kw_272) rfl rfl d_S_begin_49 ?_
    refine lv_iconst (v := nI 1) hx hb d_S_begin_52 (by decide) ?_
    have hQ := wz_split (n := 6) (gc := [bl_W q ac (am 0) (ag 0) 0 (pz_fact n) f2 w2 e2 z2 y2 d2 m2 c2]) (gr := [se_W q as9 n (am 0) (ag 0) (ab 0) (ac 0) r3 (pz_fact n) rw (nI 0) sa j ln wz, bl_W q ab (am 0) (ag 0) 0 (pz_fact n) (upd g1 j (nI 0)) (vp_updL (vp_updL w1 j 0) j 1) (upd e1 0 (nI j)) 1 0 0 (nI 0) (nI 0), gq_W q ag (am 0) (pz_fact n) (2 ^ b) (32 - b) rl st' sl' G'.length, wz_rows 12 rl (fun i9 => .inl (q.1, pz_fact n, .inl (L' i9))), mv_W q am n k rt fo]) [2] [0, 1, 3, 4, 5] rfl (by decide) rfl rfl hP hD
    refine wz_callv (va_runV (As := [.int (nI j), .int (nI 1)]) (rest := []) ⟨hx, hb, hml, hown, hts⟩ (c_B_begin l D q ac (am 0) (ag 0) 0 (pz_fact n) f2 w2 e2 z2 y2 d2 m2 c2 j (nI 1) (by omega) (by omega) hw2 _) (cwV 2 hts (wz_goodV kw_319 kw_320 kw_321 kw_36 kw_322) rfl rfl rfl (by decide +kernel) ⟨Nat.le_of_ble_eq_true rfl, Nat.le_of_ble_eq_true rfl⟩) (wz_preV (gi := 0) (k := 0) hN hK hQ wz_L_ok rfl rfl rfl) rfl rfl hl.1 rfl (lv_room (Nat.le_of_ble_eq_true rfl)) d_S_begin_53 ⟨Nat.le_of_ble_eq_true rfl, Nat.le_of_ble_eq_true rfl⟩) hQ hS hA (fun gx H locs hp hP hD hS => ?_)
    obtain ⟨g2, hg2, rfl⟩ := hp
    obtain ⟨hP, hD⟩ := wz_ord (n := 6) (gs' := [se_W q as9 n (am 0) (ag 0) (ab 0) (ac 0) r3 (pz_fact n) rw (nI 0) sa j ln wz, bl_W q ab (am 0) (ag 0) 0 (pz_fact n) (upd g1 j (nI 0)) (vp_updL (vp_updL w1 j 0) j 1) (upd e1 0 (nI j)) 1 0 0 (nI 0) (nI 0), bl_W q ac (am 0) (ag 0) 0 (pz_fact n) (upd g2 j (nI 0)) (vp_updL (vp_updL w2 j 0) j 1) (upd e2 0 (nI j)) 1 0 0 (nI 1) (nI 0), gq_W q ag (am 0) (pz_fact n) (2 ^ b) (32 - b) rl st' sl' G'.length, wz_rows 12 rl (fun i9 => .inl (q.1, pz_fact n, .inl (L' i9))), mv_W q am n k rt fo]) [1, 2, 0, 3, 4, 5] rfl (by decide) rfl hP hD
    refine lv_aload_n hx hb d_S_begin_56 rfl (lv_at hl 0 rfl) ?_
    refine lv_iconst (v := nI 1) hx hb d_S_begin_57 (by decide) ?_
    refine wz_put (gs' := [se_W q as9 n (am 0) (ag 0) (ab 0) (ac 0) r3 (pz_fact n) rw (nI 1) sa j ln wz, bl_W q ab (am 0) (ag 0) 0 (pz_fact n) (upd g1 j (nI 0)) (vp_updL (vp_updL w1 j 0) j 1) (upd e1 0 (nI j)) 1 0 0 (nI 0) (nI 0), bl_W q ac (am 0) (ag 0) 0 (pz_fact n) (upd g2 j (nI 0)) (vp_updL (vp_updL w2 j 0) j 1) (upd e2 0 (nI j)) 1 0 0 (nI 1) (nI 0), gq_W q ag (am 0) (pz_fact n) (2 ^ b) (32 - b) rl st' sl' G'.length, wz_rows 12 rl (fun i9 => .inl (q.1, pz_fact n, .inl (L' i9))), mv_W q am n k rt fo]) (v := .int (nI 1)) (T := T_S) (N := 12) hx hb hts i_S t_S t_S_ok n_S hown hK hP hD hS 0 0 rfl rfl rfl 7 (by decide) (hts _ kw_269) rfl rfl (ty := t_S 7) (by decide +kernel) rfl rfl (Nat.le_of_ble_eq_true rfl) d_S_begin_58 rfl (fun H locs hP hD hS => ?_)
    exact wz_vret hx hb hr hlocks hK hP hD hS d_S_begin_61 ⟨G', st', sl', L', G'.length, j, _, _, _, _, _, _, rfl, rfl, hok', hj, bl_begin hok'.1 hGl' hj hg1, bl_begin hok'.1 hGl' hj hg2⟩
  · skip
    exact absurd rfl hc
end
section
theorem d_S_findRow_0 : decode b_S_findRow 0 = .ok (.aload_n 0, 1) := by decide +kernel
theorem d_S_findRow_1 : decode b_S_findRow 1 = .ok (.invokevirtual 78, 3) := by decide +kernel
theorem d_S_findRow_4 : decode b_S_findRow 4 = .ok (.aload_n 0, 1) := by decide +kernel
theorem d_S_findRow_5 : decode b_S_findRow 5 = .ok (.getfield 58, 3) := by decide +kernel
theorem d_S_findRow_8 : decode b_S_findRow 8 = .ok (.aload_n 0, 1) := by decide +kernel
theorem d_S_findRow_9 : decode b_S_findRow 9 = .ok (.getfield 15, 3) := by decide +kernel
theorem d_S_findRow_12 : decode b_S_findRow 12 = .ok (.invokestatic 81, 3) := by decide +kernel
theorem d_S_findRow_15 : decode b_S_findRow 15 = .ok (.iload_n 3, 1) := by decide +kernel
theorem d_S_findRow_16 : decode b_S_findRow 16 = .ok (.aload_n 0, 1) := by decide +kernel
theorem d_S_findRow_17 : decode b_S_findRow 17 = .ok (.getfield 15, 3) := by decide +kernel
theorem d_S_findRow_20 : decode b_S_findRow 20 = .ok (.invokestatic 81, 3) := by decide +kernel
theorem d_S_findRow_23 : decode b_S_findRow 23 = .ok (.if_icmp .eq 5, 3) := by decide +kernel
theorem d_S_findRow_26 : decode b_S_findRow 26 = .ok (.iconst (-1), 1) := by decide +kernel
theorem d_S_findRow_27 : decode b_S_findRow 27 = .ok (.ireturn, 1) := by decide +kernel
theorem d_S_findRow_28 : decode b_S_findRow 28 = .ok (.aload_n 0, 1) := by decide +kernel
theorem d_S_findRow_29 : decode b_S_findRow 29 = .ok (.iload_n 1, 1) := by decide +kernel
theorem d_S_findRow_30 : decode b_S_findRow 30 = .ok (.invokevirtual 85, 3) := by decide +kernel
theorem d_S_findRow_33 : decode b_S_findRow 33 = .ok (.astore 4, 2) := by decide +kernel
theorem d_S_findRow_35 : decode b_S_findRow 35 = .ok (.aload_n 0, 1) := by decide +kernel
theorem d_S_findRow_36 : decode b_S_findRow 36 = .ok (.getfield 47, 3) := by decide +kernel
theorem d_S_findRow_39 : decode b_S_findRow 39 = .ok (.aload_n 0, 1) := by decide +kernel
theorem d_S_findRow_40 : decode b_S_findRow 40 = .ok (.getfield 31, 3) := by decide +kernel
theorem d_S_findRow_43 : decode b_S_findRow 43 = .ok (.iload_n 3, 1) := by decide +kernel
theorem d_S_findRow_44 : decode b_S_findRow 44 = .ok (.invokevirtual 64, 3) := by decide +kernel
theorem d_S_findRow_47 : decode b_S_findRow 47 = .ok (.iload_n 1, 1) := by decide +kernel
theorem d_S_findRow_48 : decode b_S_findRow 48 = .ok (.invokevirtual 70, 3) := by decide +kernel
theorem d_S_findRow_51 : decode b_S_findRow 51 = .ok (.aload_n 0, 1) := by decide +kernel
theorem d_S_findRow_52 : decode b_S_findRow 52 = .ok (.aload_n 0, 1) := by decide +kernel
theorem d_S_findRow_53 : decode b_S_findRow 53 = .ok (.aload 4, 2) := by decide +kernel
theorem d_S_findRow_55 : decode b_S_findRow 55 = .ok (.iload_n 2, 1) := by decide +kernel
theorem d_S_findRow_56 : decode b_S_findRow 56 = .ok (.invokevirtual 89, 3) := by decide +kernel
theorem d_S_findRow_59 : decode b_S_findRow 59 = .ok (.putfield 9, 3) := by decide +kernel
theorem d_S_findRow_62 : decode b_S_findRow 62 = .ok (.aload_n 0, 1) := by decide +kernel
theorem d_S_findRow_63 : decode b_S_findRow 63 = .ok (.getfield 9, 3) := by decide +kernel
theorem d_S_findRow_66 : decode b_S_findRow 66 = .ok (.iconst (-1), 1) := by decide +kernel
theorem d_S_findRow_67 : decode b_S_findRow 67 = .ok (.if_icmp .eq 23, 3) := by decide +kernel
theorem d_S_findRow_70 : decode b_S_findRow 70 = .ok (.aload_n 0, 1) := by decide +kernel
theorem d_S_findRow_71 : decode b_S_findRow 71 = .ok (.aload_n 0, 1) := by decide +kernel
theorem d_S_findRow_72 : decode b_S_findRow 72 = .ok (.aload 4, 2) := by decide +kernel
theorem d_S_findRow_74 : decode b_S_findRow 74 = .ok (.invokevirtual 93, 3) := by decide +kernel
theorem d_S_findRow_77 : decode b_S_findRow 77 = .ok (.putfield 74, 3) := by decide +kernel
theorem d_S_findRow_80 : decode b_S_findRow 80 = .ok (.aload_n 0, 1) := by decide +kernel
theorem d_S_findRow_81 : decode b_S_findRow 81 = .ok (.aload 4, 2) := by decide +kernel
theorem d_S_findRow_83 : decode b_S_findRow 83 = .ok (.invokevirtual 97, 3) := by decide +kernel
theorem d_S_findRow_86 : decode b_S_findRow 86 = .ok (.aload_n 0, 1) := by decide +kernel
theorem d_S_findRow_87 : decode b_S_findRow 87 = .ok (.invokevirtual 101, 3) := by decide +kernel
theorem d_S_findRow_90 : decode b_S_findRow 90 = .ok (.aload_n 0, 1) := by decide +kernel
theorem d_S_findRow_91 : decode b_S_findRow 91 = .ok (.getfield 9, 3) := by decide +kernel
theorem d_S_findRow_94 : decode b_S_findRow 94 = .ok (.ireturn, 1) := by decide +kernel
theorem kw_7 : (Cond.selects "TwoEndSearch$Search" ⟨"TwoEndSearch$Search", "meet", "(LTwoEndSearch$Ball;I)I"⟩ ⟨"TwoEndSearch$Search", "meet", "(LTwoEndSearch$Ball;I)I"⟩ : Cond) ∈ bigW := bigW_of 7 (by decide +kernel) (by decide +kernel)
theorem kw_9 : (Cond.selects "TwoEndSearch$Search" ⟨"TwoEndSearch$Search", "waysThroughMeeting", "(LTwoEndSearch$Ball;)J"⟩ ⟨"TwoEndSearch$Search", "waysThroughMeeting", "(LTwoEndSearch$Ball;)J"⟩ : Cond) ∈ bigW := bigW_of 9 (by decide +kernel) (by decide +kernel)
theorem kw_10 : (Cond.selects "TwoEndSearch$Search" ⟨"TwoEndSearch$Search", "leadBackToStart", "(LTwoEndSearch$Ball;)V"⟩ ⟨"TwoEndSearch$Search", "leadBackToStart", "(LTwoEndSearch$Ball;)V"⟩ : Cond) ∈ bigW := bigW_of 10 (by decide +kernel) (by decide +kernel)
theorem kw_12 : (Cond.selects "TwoEndSearch$Search" ⟨"TwoEndSearch$Search", "walkLeastRow", "()V"⟩ ⟨"TwoEndSearch$Search", "walkLeastRow", "()V"⟩ : Cond) ∈ bigW := bigW_of 12 (by decide +kernel) (by decide +kernel)
theorem kw_113 : (Cond.instanceMethod ⟨"TwoEndSearch$Search", "forgetRow", "()V"⟩ : Cond) ∈ bigW := bigW_of 113 (by decide +kernel) (by decide +kernel)
theorem kw_114 : (Cond.selects "TwoEndSearch$Search" ⟨"TwoEndSearch$Search", "forgetRow", "()V"⟩ ⟨"TwoEndSearch$Search", "forgetRow", "()V"⟩ : Cond) ∈ bigW := bigW_of 114 (by decide +kernel) (by decide +kernel)
theorem kw_115 : (Cond.code ⟨"TwoEndSearch$Search", "forgetRow", "()V"⟩ prog_5_method_3_code 1 none : Cond) ∈ bigW := bigW_of 115 (by decide +kernel) (by decide +kernel)
theorem kw_261 : (Cond.fieldLink "TwoEndSearch$Search" 15 "TwoEndSearch$Search" "places" "I" : Cond) ∈ bigW := bigW_of 261 (by decide +kernel) (by decide +kernel)
theorem kw_331 : (Cond.methodLink "TwoEndSearch$Search" 78 ⟨"TwoEndSearch$Search", "forgetRow", "()V"⟩ : Cond) ∈ bigW := bigW_of 331 (by decide +kernel) (by decide +kernel)
theorem kw_333 : (Cond.static ⟨"TwoEndSearch", "tally", "(II)I"⟩ : Cond) ∈ bigW := bigW_of 333 (by decide +kernel) (by decide +kernel)
theorem kw_334 : (Cond.code ⟨"TwoEndSearch", "tally", "(II)I"⟩ prog_1_method_19_code 5 (some .int) : Cond) ∈ bigW := bigW_of 334 (by decide +kernel) (by decide +kernel)
theorem kw_335 : (Cond.methodLink "TwoEndSearch$Search" 85 ⟨"TwoEndSearch$Search", "ahead", "(I)LTwoEndSearch$Ball;"⟩ : Cond) ∈ bigW := bigW_of 335 (by decide +kernel) (by decide +kernel)
theorem kw_336 : (Cond.instanceMethod ⟨"TwoEndSearch$Search", "ahead", "(I)LTwoEndSearch$Ball;"⟩ : Cond) ∈ bigW := bigW_of 336 (by decide +kernel) (by decide +kernel)
theorem kw_337 : (Cond.selects "TwoEndSearch$Search" ⟨"TwoEndSearch$Search", "ahead", "(I)LTwoEndSearch$Ball;"⟩ ⟨"TwoEndSearch$Search", "ahead", "(I)LTwoEndSearch$Ball;"⟩ : Cond) ∈ bigW := bigW_of 337 (by decide +kernel) (by decide +kernel)
theorem kw_338 : (Cond.code ⟨"TwoEndSearch$Search", "ahead", "(I)LTwoEndSearch$Ball;"⟩ prog_5_method_4_code 2 (some (.object "TwoEndSearch$Ball")) : Cond) ∈ bigW := bigW_of 338 (by decide +kernel) (by decide +kernel)
theorem kw_339 : (Cond.methodLink "TwoEndSearch$Search" 89 ⟨"TwoEndSearch$Search", "meet", "(LTwoEndSearch$Ball;I)I"⟩ : Cond) ∈ bigW := bigW_of 339 (by decide +kernel) (by decide +kernel)
theorem kw_341 : (Cond.instanceMethod ⟨"TwoEndSearch$Search", "meet", "(LTwoEndSearch$Ball;I)I"⟩ : Cond) ∈ bigW := bigW_of 341 (by decide +kernel) (by decide +kernel)
theorem kw_342 : (Cond.code ⟨"TwoEndSearch$Search", "meet", "(LTwoEndSearch$Ball;I)I"⟩ prog_5_method_6_code 6 (some .int) : Cond) ∈ bigW := bigW_of 342 (by decide +kernel) (by decide +kernel)
theorem kw_369 : (Cond.methodLink "TwoEndSearch$Search" 93 ⟨"TwoEndSearch$Search", "waysThroughMeeting", "(LTwoEndSearch$Ball;)J"⟩ : Cond) ∈ bigW := bigW_of 369 (by decide +kernel) (by decide +kernel)
theorem kw_371 : (Cond.instanceMethod ⟨"TwoEndSearch$Search", "waysThroughMeeting", "(LTwoEndSearch$Ball;)J"⟩ : Cond) ∈ bigW := bigW_of 371 (by decide +kernel) (by decide +kernel)
theorem kw_372 : (Cond.code ⟨"TwoEndSearch$Search", "waysThroughMeeting", "(LTwoEndSearch$Ball;)J"⟩ prog_5_method_7_code 7 (some .long) : Cond) ∈ bigW := bigW_of 372 (by decide +kernel) (by decide +kernel)
theorem kw_373 : (Cond.methodLink "TwoEndSearch$Search" 97 ⟨"TwoEndSearch$Search", "leadBackToStart", "(LTwoEndSearch$Ball;)V"⟩ : Cond) ∈ bigW := bigW_of 373 (by decide +kernel) (by decide +kernel)
theorem kw_375 : (Cond.instanceMethod ⟨"TwoEndSearch$Search", "leadBackToStart", "(LTwoEndSearch$Ball;)V"⟩ : Cond) ∈ bigW := bigW_of 375 (by decide +kernel) (by decide +kernel)
theorem kw_376 : (Cond.code ⟨"TwoEndSearch$Search", "leadBackToStart", "(LTwoEndSearch$Ball;)V"⟩ prog_5_method_8_code 6 none : Cond) ∈ bigW := bigW_of 376 (by decide +kernel) (by decide +kernel)
theorem kw_384 : (Cond.methodLink "TwoEndSearch$Search" 101 ⟨"TwoEndSearch$Search", "walkLeastRow", "()V"⟩ : Cond) ∈ bigW := bigW_of 384 (by decide +kernel) (by decide +kernel)
theorem kw_386 : (Cond.instanceMethod ⟨"TwoEndSearch$Search", "walkLeastRow", "()V"⟩ : Cond) ∈ bigW := bigW_of 386 (by decide +kernel) (by decide +kernel)
theorem kw_387 : (Cond.code ⟨"TwoEndSearch$Search", "walkLeastRow", "()V"⟩ prog_5_method_10_code 3 none : Cond) ∈ bigW := bigW_of 387 (by decide +kernel) (by decide +kernel)
def po_S_findRow (q : wz_Q) (as9 ab ac ak ag am : Nat → Nat) (n b k : Nat) (rl rt : Nat → Nat) (fo : Nat → Int32) (M : Nat → Nat → Int32) (sg tu : Nat → Nat → Nat) (od : Nat → Nat) (rw : Nat → Int32) (bg : Int32) (ro : Nat) (ln : Int32) (wz : Int64) (G : List Nat) (st sl : Nat → Int32) (L : Nat → Nat → Int32) (S1 : pz_S) (f1 : Nat → Int32) (w1 : Nat → Int64) (e1 : Nat → Int32) (y1 d1 : Nat) (b1 : Bool) (S2 : pz_S) (f2 : Nat → Int32) (w2 : Nat → Int64) (e2 : Nat → Int32) (y2 d2 : Nat) (b2 : Bool) (fk : Nat → Int32) (wk : Nat → Int64) (rk : Nat → Int32) (z3 y3 d3 : Nat) (m3 c3 : Int32) (sa gl ms9 mu : Nat) : Int32 → wz_G → Prop := fun v w => ∃ (G' : List Nat) (st' sl' : Nat → Int32) (L' : Nat → Nat → Int32) (S1' : pz_S) (f1' : Nat → Int32) (w1' : Nat → Int64) (e1' : Nat → Int32) (y1' d1' : Nat) (b1' : Bool) (S2' : pz_S) (f2' : Nat → Int32) (w2' : Nat → Int64) (e2' : Nat → Int32) (y2' d2' : Nat) (b2' : Bool) (fk' : Nat → Int32) (wk' : Nat → Int64) (rk' : Nat → Int32) (z3' y3' d3' : Nat) (m3' c3' : Int32) (rw' : Nat → Int32) (ln' : Int32) (wz' : Int64), w = [se_W q as9 n (am 0) (ag 0) (ab 0) (ac 0) (ak 0) (pz_fact n) rw' bg sa ro ln' wz', bl_W q ab (am 0) (ag 0) 0 (pz_fact n) f1' w1' e1' S1'.1.length y1' d1' (nI 0) (bl_b b1'), bl_W q ac (am 0) (ag 0) 0 (pz_fact n) f2' w2' e2' S2'.1.length y2' d2' (nI 1) (bl_b b2'), bl_W q ak (am 0) (ag 0) 6 (pz_fact n) fk' wk' rk' z3' y3' d3' m3' c3', gq_W q ag (am 0) (pz_fact n) (2 ^ b) (32 - b) rl st' sl' G'.length, wz_rows 12 rl (fun i9 => .inl (q.1, pz_fact n, .inl (L' i9))), mv_W q am n k rt fo, wz_rows 12 rt (fun i9 => .inl (q.1, 8, .inl (M i9)))] ∧ (∃ Nw, G' = G ++ Nw) ∧ gq_ok n sa b k sg tu G' st' sl' L' ∧ (bl_ok (pz_fact n) G' S1' f1' w1' e1' ∧ pz_ball (bl_s n k 0 sg tu od (nI 0)) sa y1' d1' b1' S1' ∧ d1' ≤ y1') ∧ (bl_ok (pz_fact n) G' S2' f2' w2' e2' ∧ pz_ball (bl_s n k 0 sg tu od (nI 1)) sa y2' d2' b2' S2' ∧ d2' ≤ y2') ∧ bl_raw (pz_fact n) fk' rk' z3' ∧ ((v = -1 ∧ ln' = -1 ∧ wz' = 0 ∧ ∀ K9, pz_dist (bl_s n k 0 sg tu od (nI mu)) sa gl K9 → ms9 < K9) ∨ ∃ (len : Nat) (mv9 tm9 X9 : Nat → Nat), v = nI len ∧ ln' = nI len ∧ pz_dist (bl_s n k 0 sg tu od (nI mu)) sa gl len ∧ len ≤ ms9 ∧ len < pz_fact n ∧ wz' = lN (pz_cnt gl (pz_ends (bl_s n k 0 sg tu od (nI mu)) sa len)) ∧ pz_row k (bl_mt (nI mu) od) (bl_g n 0 sg tu) (pz_dist (bl_s n k 6 sg tu od (nI mu)) gl) sa len mv9 tm9 X9 ∧ ∀ i, i < len → rw' i = nI (mv9 i * 15 + tm9 i))
set_option maxHeartbeats 4000000 in
set_option maxRecDepth 100000 in
/-- a shortest row -/
theorem c_S_findRow (l : Launch) (D : va_G) (q : wz_Q) (as9 ab ac ak ag am : Nat → Nat) (n b k : Nat) (rl rt : Nat → Nat) (fo : Nat → Int32) (M : Nat → Nat → Int32) (sg tu : Nat → Nat → Nat) (od : Nat → Nat) (rw : Nat → Int32) (bg : Int32) (ro : Nat) (ln : Int32) (wz : Int64) (G : List Nat) (st sl : Nat → Int32) (L : Nat → Nat → Int32) (S1 : pz_S) (f1 : Nat → Int32) (w1 : Nat → Int64) (e1 : Nat → Int32) (y1 d1 : Nat) (b1 : Bool) (S2 : pz_S) (f2 : Nat → Int32) (w2 : Nat → Int64) (e2 : Nat → Int32) (y2 d2 : Nat) (b2 : Bool) (fk : Nat → Int32) (wk : Nat → Int64) (rk : Nat → Int32) (z3 y3 d3 : Nat) (m3 c3 : Int32) (sa gl ms9 mu : Nat) (hn : n ≤ 8) (hb0 : 0 < b) (hb30 : b ≤ 30) (hM : pz_fact n < 2 ^ b) (hk : k ≤ 6) (hmv : mv_ok n k fo M sg tu od) (hok : gq_ok n sa b k sg tu G st sl L) (hro : G[ro]? = some sa) (hS1 : bl_ok (pz_fact n) G S1 f1 w1 e1) (hba1 : pz_ball (bl_s n k 0 sg tu od (nI 0)) sa y1 d1 b1 S1) (hdy1 : d1 ≤ y1) (hS2 : bl_ok (pz_fact n) G S2 f2 w2 e2) (hba2 : pz_ball (bl_s n k 0 sg tu od (nI 1)) sa y2 d2 b2 S2) (hdy2 : d2 ≤ y2) (hw3 : bl_raw (pz_fact n) fk rk z3) (hgl : gl < 8 ^ n) (hsa : sa < 8 ^ n) (hms : ms9 < 2 ^ 31) (hmu : mu = 0 ∨ mu = 1) : wz_Mi l y_S_findRow ws_S_findRow ({ frames := 6, cells := 0, slots := 0, locals := 145 } : Room) D q ([.ref (as9 0), .int (nI mu), .int (nI ms9), .int (nI gl)] : List Value) [se_W q as9 n (am 0) (ag 0) (ab 0) (ac 0) (ak 0) (pz_fact n) rw bg sa ro ln wz, bl_W q ab (am 0) (ag 0) 0 (pz_fact n) f1 w1 e1 S1.1.length y1 d1 (nI 0) (bl_b b1), bl_W q ac (am 0) (ag 0) 0 (pz_fact n) f2 w2 e2 S2.1.length y2 d2 (nI 1) (bl_b b2), bl_W q ak (am 0) (ag 0) 6 (pz_fact n) fk wk rk z3 y3 d3 m3 c3, gq_W q ag (am 0) (pz_fact n) (2 ^ b) (32 - b) rl st sl G.length, wz_rows 12 rl (fun i9 => .inl (q.1, pz_fact n, .inl (L i9))), mv_W q am n k rt fo, wz_rows 12 rt (fun i9 => .inl (q.1, 8, .inl (M i9)))] (po_S_findRow q as9 ab ac ak ag am n b k rl rt fo M sg tu od rw bg ro ln wz G st sl L S1 f1 w1 e1 y1 d1 b1 S2 f2 w2 e2 y2 d2 b2 fk wk rk z3 y3 d3 m3 c3 sa gl ms9 mu) 0 0 := by
  intro sz9
  refine wz_enter (cc := b_S_findRow) (maxL := 5) (ret := (some .int)) (Qc := fun A => (va_Qi (po_S_findRow q as9 ab ac ak ag am n b k rl rt fo M sg tu od rw bg ro ln wz G st sl L S1 f1 w1 e1 y1 d1 b1 S2 f2 w2 e2 y2 d2 b2 fk wk rk z3 y3 d3 m3 c3 sa gl ms9 mu) (wz_At D q A) A)) (by decide) (Nat.le_of_ble_eq_true rfl) ?_
  intro p e s m below meth c A ls C hP hD hS hl
  obtain ⟨hx, hb, hr, hml, hlocks, hown, hts, hN, hK, hA, hnm⟩ := C
  have hown : s.vm.findClass "TwoEndSearch$Search" = some m.cls := hown
  have hl : lv_has ls 5 [(0, .ref (as9 0)), (1, .int (nI mu)), (2, .int (nI ms9)), (3, .int (nI gl))] := hl
  have hfl := pz_fact_le hn
  have hGl := gq_len hok
  have hrl := (List.getElem?_eq_some_iff.mp hro).1
  rcases hmu with rfl | rfl
  · skip
    have hrv := bl_rev (me := nI 0) hmv hk
    have harr := bl_s_arr (me := nI 0) (a0 := sa) hmv hk (Or.inl rfl)
    refine lv_aload_n hx hb d_S_findRow_0 rfl (lv_at hl 0 rfl) ?_
    have hQ := wz_split (n := 8) (gc := [se_W q as9 n (am 0) (ag 0) (ab 0) (ac 0) (ak 0) (pz_fact n) rw bg sa ro ln wz]) (gr := [bl_W q ab (am 0) (ag 0) 0 (pz_fact n) f1 w1 e1 S1.1.length y1 d1 (nI 0) (bl_b b1), bl_W q ac (am 0) (ag 0) 0 (pz_fact n) f2 w2 e2 S2.1.length y2 d2 (nI 1) (bl_b b2), bl_W q ak (am 0) (ag 0) 6 (pz_fact n) fk wk rk z3 y3 d3 m3 c3, gq_W q ag (am 0) (pz_fact n) (2 ^ b) (32 - b) rl st sl G.length, wz_rows 12 rl (fun i9 => .inl (q.1, pz_fact n, .inl (L i9))), mv_W q am n k rt fo, wz_rows 12 rt (fun i9 => .inl (q.1, 8, .inl (M i9)))]) [0] [1, 2, 3, 4, 5, 6, 7] rfl (by decide) rfl rfl hP hD
    refine wz_callv (va_runV (As := []) (rest := []) ⟨hx, hb, hml, hown, hts⟩ (c_S_forgetRow l D q as9 n (am 0) (ag 0) (ab 0) (ac 0) (ak 0) (pz_fact n) rw bg sa ro ln wz _) (cwV 0 hts (wz_goodV kw_331 kw_113 kw_114 kw_34 kw_115) rfl rfl rfl (by decide +kernel) ⟨Nat.le_of_ble_eq_true rfl, Nat.le_of_ble_eq_true rfl⟩) (wz_preV (gi := 0) (k := 0) hN hK hQ wz_L_ok rfl rfl rfl) rfl rfl hl.1 rfl (lv_room (Nat.le_of_ble_eq_true rfl)) d_S_findRow_1 ⟨Nat.le_of_ble_eq_true rfl, Nat.le_of_ble_eq_true rfl⟩) hQ hS hA (fun gx H locs hp hP hD hS => ?_)
    have hp : gx = _ := hp
    subst hp
    obtain ⟨hP, hD⟩ := wz_ord (n := 8) (gs' := [se_W q as9 n (am 0) (ag 0) (ab 0) (ac 0) (ak 0) (pz_fact n) rw bg sa ro (-1) 0, bl_W q ab (am 0) (ag 0) 0 (pz_fact n) f1 w1 e1 S1.1.length y1 d1 (nI 0) (bl_b b1), bl_W q ac (am 0) (ag 0) 0 (pz_fact n) f2 w2 e2 S2.1.length y2 d2 (nI 1) (bl_b b2), bl_W q ak (am 0) (ag 0) 6 (pz_fact n) fk wk rk z3 y3 d3 m3 c3, gq_W q ag (am 0) (pz_fact n) (2 ^ b) (32 - b) rl st sl G.length, wz_rows 12 rl (fun i9 => .inl (q.1, pz_fact n, .inl (L i9))), mv_W q am n k rt fo, wz_rows 12 rt (fun i9 => .inl (q.1, 8, .inl (M i9)))]) [0, 1, 2, 3, 4, 5, 6, 7] rfl (by decide) rfl hP hD
    refine lv_aload_n hx hb d_S_findRow_4 rfl (lv_at hl 0 rfl) ?_
    refine wz_get (v := .int (nI sa)) (T := T_S) (N := 12) hx hb hts i_S hown hK hP 0 0 rfl rfl rfl 8 (by decide) (hts _ kw_271) rfl rfl d_S_findRow_5 ?_
    refine lv_aload_n hx hb d_S_findRow_8 rfl (lv_at hl 0 rfl) ?_
    refine wz_get (v := .int (nI n)) (T := T_S) (N := 12) hx hb hts i_S hown hK hP 0 0 rfl rfl rfl 0 (by decide) (hts _ kw_261) rfl rfl d_S_findRow_9 ?_
    have hQ := wz_split (n := 8) (gc := []) (gr := [se_W q as9 n (am 0) (ag 0) (ab 0) (ac 0) (ak 0) (pz_fact n) rw bg sa ro (-1) 0, bl_W q ab (am 0) (ag 0) 0 (pz_fact n) f1 w1 e1 S1.1.length y1 d1 (nI 0) (bl_b b1), bl_W q ac (am 0) (ag 0) 0 (pz_fact n) f2 w2 e2 S2.1.length y2 d2 (nI 1) (bl_b b2), bl_W q ak (am 0) (ag 0) 6 (pz_fact n) fk wk rk z3 y3 d3 m3 c3, gq_W q ag (am 0) (pz_fact n) (2 ^ b) (32 - b) rl st sl G.length, wz_rows 12 rl (fun i9 => .inl (q.1, pz_fact n, .inl (L i9))), mv_W q am n k rt fo, wz_rows 12 rt (fun i9 => .inl (q.1, 8, .inl (M i9)))]) [] [0, 1, 2, 3, 4, 5, 6, 7] rfl (by decide) rfl rfl hP hD
    refine wz_calli (va_runSN (As := [.int (nI sa), .int (nI n)]) (rest := []) ⟨hx, hb, hml, hown, hts⟩ (c_X_tally l D q n sa hn hsa _) ⟨va_cnB 2 hts (wz_good kw_334) rfl rfl rfl (hN _ (List.mem_of_getElem? (i := 19) rfl)) (hts _ kw_30) (by decide +kernel) ⟨Nat.le_of_ble_eq_true rfl, Nat.le_of_ble_eq_true rfl⟩, hts _ kw_333, trivial⟩ (wz_preS hN hK hQ wz_L_ok) rfl rfl hl.1 rfl (lv_room (Nat.le_of_ble_eq_true rfl)) d_S_findRow_12 ⟨Nat.le_of_ble_eq_true rfl, Nat.le_of_ble_eq_true rfl⟩) hQ hS hA (fun v_12 gx H locs hp hP hD hS => ?_)
    obtain ⟨rfl, rfl⟩ := hp
    obtain ⟨hP, hD⟩ := wz_ord (n := 8) (gs' := [se_W q as9 n (am 0) (ag 0) (ab 0) (ac 0) (ak 0) (pz_fact n) rw bg sa ro (-1) 0, bl_W q ab (am 0) (ag 0) 0 (pz_fact n) f1 w1 e1 S1.1.length y1 d1 (nI 0) (bl_b b1), bl_W q ac (am 0) (ag 0) 0 (pz_fact n) f2 w2 e2 S2.1.length y2 d2 (nI 1) (bl_b b2), bl_W q ak (am 0) (ag 0) 6 (pz_fact n) fk wk rk z3 y3 d3 m3 c3, gq_W q ag (am 0) (pz_fact n) (2 ^ b) (32 - b) rl st sl G.length, wz_rows 12 rl (fun i9 => .inl (q.1, pz_fact n, .inl (L i9))), mv_W q am n k rt fo, wz_rows 12 rt (fun i9 => .inl (q.1, 8, .inl (M i9)))]) [0, 1, 2, 3, 4, 5, 6, 7] rfl (by decide) rfl hP hD
    refine lv_iload_n hx hb d_S_findRow_15 rfl (lv_at hl 3 rfl) ?_
    refine lv_aload_n hx hb d_S_findRow_16 rfl (lv_at hl 0 rfl) ?_
    refine wz_get (v := .int (nI n)) (T := T_S) (N := 12) hx hb hts i_S hown hK hP 0 0 rfl rfl rfl 0 (by decide) (hts _ kw_261) rfl rfl d_S_findRow_17 ?_
    have hQ := wz_split (n := 8) (gc := []) (gr := [se_W q as9 n (am 0) (ag 0) (ab 0) (ac 0) (ak 0) (pz_fact n) rw bg sa ro (-1) 0, bl_W q ab (am 0) (ag 0) 0 (pz_fact n) f1 w1 e1 S1.1.length y1 d1 (nI 0) (bl_b b1), bl_W q ac (am 0) (ag 0) 0 (pz_fact n) f2 w2 e2 S2.1.length y2 d2 (nI 1) (bl_b b2), bl_W q ak (am 0) (ag 0) 6 (pz_fact n) fk wk rk z3 y3 d3 m3 c3, gq_W q ag (am 0) (pz_fact n) (2 ^ b) (32 - b) rl st sl G.length, wz_rows 12 rl (fun i9 => .inl (q.1, pz_fact n, .inl (L i9))), mv_W q am n k rt fo, wz_rows 12 rt (fun i9 => .inl (q.1, 8, .inl (M i9)))]) [] [0, 1, 2, 3, 4, 5, 6, 7] rfl (by decide) rfl rfl hP hD
    refine wz_calli (va_runSN (As := [.int (nI gl), .int (nI n)]) (rest := [.int (nI (pz_tal sa n))]) ⟨hx, hb, hml, hown, hts⟩ (c_X_tally l D q n gl hn hgl _) ⟨va_cnB 2 hts (wz_good kw_334) rfl rfl rfl (hN _ (List.mem_of_getElem? (i := 19) rfl)) (hts _ kw_30) (by decide +kernel) ⟨Nat.le_of_ble_eq_true rfl, Nat.le_of_ble_eq_true rfl⟩, hts _ kw_333, trivial⟩ (wz_preS hN hK hQ wz_L_ok) rfl rfl hl.1 rfl (lv_room (Nat.le_of_ble_eq_true rfl)) d_S_findRow_20 ⟨Nat.le_of_ble_eq_true rfl, Nat.le_of_ble_eq_true rfl⟩) hQ hS hA (fun v_20 gx H locs hp hP hD hS => ?_)
    obtain ⟨rfl, rfl⟩ := hp
    obtain ⟨hP, hD⟩ := wz_ord (n := 8) (gs' := [se_W q as9 n (am 0) (ag 0) (ab 0) (ac 0) (ak 0) (pz_fact n) rw bg sa ro (-1) 0, bl_W q ab (am 0) (ag 0) 0 (pz_fact n) f1 w1 e1 S1.1.length y1 d1 (nI 0) (bl_b b1), bl_W q ac (am 0) (ag 0) 0 (pz_fact n) f2 w2 e2 S2.1.length y2 d2 (nI 1) (bl_b b2), bl_W q ak (am 0) (ag 0) 6 (pz_fact n) fk wk rk z3 y3 d3 m3 c3, gq_W q ag (am 0) (pz_fact n) (2 ^ b) (32 - b) rl st sl G.length, wz_rows 12 rl (fun i9 => .inl (q.1, pz_fact n, .inl (L i9))), mv_W q am n k rt fo, wz_rows 12 rt (fun i9 => .inl (q.1, 8, .inl (M i9)))]) [0, 1, 2, 3, 4, 5, 6, 7] rfl (by decide) rfl hP hD
    have ht1 := pz_tal_lt sa hn
    have ht2 := pz_tal_lt gl hn
    have ht3 : n * 16 ^ 7 ≤ 8 * 16 ^ 7 := Nat.mul_le_mul_right _ hn
    refine lv_icmp_eq (tgt := 28) hx hb d_S_findRow_23 (by decide) (fun hc => ?_) (fun hc => ?_)
    · skip
      have htal := nI_inj32 (by omega) (by omega) hc
      have hga : pz_arr n sa gl := ⟨hgl, pz_tal_perm hn htal⟩
      refine lv_aload_n hx hb d_S_findRow_28 rfl (lv_at hl 0 rfl) ?_
      refine lv_iload_n hx hb d_S_findRow_29 rfl (lv_at hl 1 rfl) ?_
      have hQ := wz_split (n := 8) (gc := [se_W q as9 n (am 0) (ag 0) (ab 0) (ac 0) (ak 0) (pz_fact n) rw bg sa ro (-1) 0]) (gr := [bl_W q ab (am 0) (ag 0) 0 (pz_fact n) f1 w1 e1 S1.1.length y1 d1 (nI 0) (bl_b b1), bl_W q ac (am 0) (ag 0) 0 (pz_fact n) f2 w2 e2 S2.1.length y2 d2 (nI 1) (bl_b b2), bl_W q ak (am 0) (ag 0) 6 (pz_fact n) fk wk rk z3 y3 d3 m3 c3, gq_W q ag (am 0) (pz_fact n) (2 ^ b) (32 - b) rl st sl G.length, wz_rows 12 rl (fun i9 => .inl (q.1, pz_fact n, .inl (L i9))), mv_W q am n k rt fo, wz_rows 12 rt (fun i9 => .inl (q.1, 8, .inl (M i9)))]) [0] [1, 2, 3, 4, 5, 6, 7] rfl (by decide) rfl rfl hP hD
      refine wz_callr (va_runV (As := [.int (nI 0)]) (rest := []) ⟨hx, hb, hml, hown, hts⟩ (c_S_ahead l D q as9 n (am 0) (ag 0) (ab 0) (ac 0) (ak 0) (pz_fact n) rw bg sa ro (-1) 0 (nI 0) _) (cwV 1 hts (wz_goodV kw_335 kw_336 kw_337 kw_34 kw_338) rfl rfl rfl (by decide +kernel) ⟨Nat.le_of_ble_eq_true rfl, Nat.le_of_ble_eq_true rfl⟩) (wz_preV (gi := 0) (k := 0) hN hK hQ wz_L_ok rfl rfl rfl) rfl rfl hl.1 rfl (lv_room (Nat.le_of_ble_eq_true rfl)) d_S_findRow_30 ⟨Nat.le_of_ble_eq_true rfl, Nat.le_of_ble_eq_true rfl⟩) hQ hS hA (fun v_30 gx H locs hp hP hD hS => ?_)
      obtain ⟨rfl, hv⟩ := hp
      have hv : v_30 = ab 0 := hv
      subst hv
      obtain ⟨hP, hD⟩ := wz_ord (n := 8) (gs' := [se_W q as9 n (am 0) (ag 0) (ab 0) (ac 0) (ak 0) (pz_fact n) rw bg sa ro (-1) 0, bl_W q ab (am 0) (ag 0) 0 (pz_fact n) f1 w1 e1 S1.1.length y1 d1 (nI 0) (bl_b b1), bl_W q ac (am 0) (ag 0) 0 (pz_fact n) f2 w2 e2 S2.1.length y2 d2 (nI 1) (bl_b b2), bl_W q ak (am 0) (ag 0) 6 (pz_fact n) fk wk rk z3 y3 d3 m3 c3, gq_W q ag (am 0) (pz_fact n) (2 ^ b) (32 - b) rl st sl G.length, wz_rows 12 rl (fun i9 => .inl (q.1, pz_fact n, .inl (L i9))), mv_W q am n k rt fo, wz_rows 12 rt (fun i9 => .inl (q.1, 8, .inl (M i9)))]) [0, 1, 2, 3, 4, 5, 6, 7] rfl (by decide) rfl hP hD
      refine lv_astore (lv' := [(4, .ref (ab 0)), (0, .ref (as9 0)), (1, .int (nI 0)), (2, .int (nI ms9)), (3, .int (nI gl))]) hx hb d_S_findRow_33 hl (by decide) rfl (fun ls hl => ?_)
      refine lv_aload_n hx hb d_S_findRow_35 rfl (lv_at hl 1 rfl) ?_
      refine wz_get (v := .ref (ak 0)) (T := T_S) (N := 12) hx hb hts i_S hown hK hP 0 0 rfl rfl rfl 5 (by decide) (hts _ kw_266) rfl rfl d_S_findRow_36 ?_
      refine lv_aload_n hx hb d_S_findRow_39 rfl (lv_at hl 1 rfl) ?_
      refine wz_get (v := .ref (ag 0)) (T := T_S) (N := 12) hx hb hts i_S hown hK hP 0 0 rfl rfl rfl 2 (by decide) (hts _ kw_263) rfl rfl d_S_findRow_40 ?_
      refine lv_iload_n hx hb d_S_findRow_43 rfl (lv_at hl 4 rfl) ?_
      have hQ := wz_split (n := 8) (gc := [gq_W q ag (am 0) (pz_fact n) (2 ^ b) (32 - b) rl st sl G.length, wz_rows 12 rl (fun i9 => .inl (q.1, pz_fact n, .inl (L i9))), mv_W q am n k rt fo]) (gr := [se_W q as9 n (am 0) (ag 0) (ab 0) (ac 0) (ak 0) (pz_fact n) rw bg sa ro (-1) 0, bl_W q ab (am 0) (ag 0) 0 (pz_fact n) f1 w1 e1 S1.1.length y1 d1 (nI 0) (bl_b b1), bl_W q ac (am 0) (ag 0) 0 (pz_fact n) f2 w2 e2 S2.1.length y2 d2 (nI 1) (bl_b b2), bl_W q ak (am 0) (ag 0) 6 (pz_fact n) fk wk rk z3 y3 d3 m3 c3, wz_rows 12 rt (fun i9 => .inl (q.1, 8, .inl (M i9)))]) [4, 5, 6] [0, 1, 2, 3, 7] rfl (by decide) rfl rfl hP hD
      refine wz_calli (va_runV (As := [.int (nI gl)]) (rest := [.ref (ak 0)]) ⟨hx, hb, hml, hown, hts⟩ (c_G_enter l D q ag am n b k rl rt fo st sl L sg tu G sa gl hn hb0 hb30 hM hk hok hga _) (cwV 1 hts (wz_goodV kw_315 kw_316 kw_317 kw_35 kw_318) rfl rfl rfl (by decide +kernel) ⟨Nat.le_of_ble_eq_true rfl, Nat.le_of_ble_eq_true rfl⟩) (wz_preV (gi := 0) (k := 0) hN hK hQ wz_L_ok rfl rfl rfl) rfl rfl hl.1 rfl (lv_room (Nat.le_of_ble_eq_true rfl)) d_S_findRow_44 ⟨Nat.le_of_ble_eq_true rfl, Nat.le_of_ble_eq_true rfl⟩) hQ hS hA (fun v_44 gx H locs hp hP hD hS => ?_)
      obtain ⟨G2, st2, sl2, L2, c9, j, rfl, rfl, rfl, hj, ⟨Na, hNa⟩, hok2⟩ := hp
      have hG2l := gq_len hok2
      have hjl := (List.getElem?_eq_some_iff.mp hj).1
      have hS1a := bl_more hS1 ⟨Na, hNa⟩ hok2.1 hG2l
      have hS2a := bl_more hS2 ⟨Na, hNa⟩ hok2.1 hG2l
      obtain ⟨hP, hD⟩ := wz_ord (n := 8) (gs' := [se_W q as9 n (am 0) (ag 0) (ab 0) (ac 0) (ak 0) (pz_fact n) rw bg sa ro (-1) 0, bl_W q ab (am 0) (ag 0) 0 (pz_fact n) f1 w1 e1 S1.1.length y1 d1 (nI 0) (bl_b b1), bl_W q ac (am 0) (ag 0) 0 (pz_fact n) f2 w2 e2 S2.1.length y2 d2 (nI 1) (bl_b b2), bl_W q ak (am 0) (ag 0) 6 (pz_fact n) fk wk rk z3 y3 d3 m3 c3, gq_W q ag (am 0) (pz_fact n) (2 ^ b) (32 - b) rl st2 sl2 G2.length, wz_rows 12 rl (fun i9 => .inl (q.1, pz_fact n, .inl (L2 i9))), mv_W q am n k rt fo, wz_rows 12 rt (fun i9 => .inl (q.1, 8, .inl (M i9)))]) [3, 4, 5, 6, 0, 1, 2, 7] rfl (by decide) rfl hP hD
      refine lv_iload_n hx hb d_S_findRow_47 rfl (lv_at hl 2 rfl) ?_
      have hQ := wz_split (n := 8) (gc := [bl_W q ak (am 0) (ag 0) 6 (pz_fact n) fk wk rk z3 y3 d3 m3 c3]) (gr := [se_W q as9 n (am 0) (ag 0) (ab 0) (ac 0) (ak 0) (pz_fact n) rw bg sa ro (-1) 0, bl_W q ab (am 0) (ag 0) 0 (pz_fact n) f1 w1 e1 S1.1.length y1 d1 (nI 0) (bl_b b1), bl_W q ac (am 0) (ag 0) 0 (pz_fact n) f2 w2 e2 S2.1.length y2 d2 (nI 1) (bl_b b2), gq_W q ag (am 0) (pz_fact n) (2 ^ b) (32 - b) rl st2 sl2 G2.length, wz_rows 12 rl (fun i9 => .inl (q.1, pz_fact n, .inl (L2 i9))), mv_W q am n k rt fo, wz_rows 12 rt (fun i9 => .inl (q.1, 8, .inl (M i9)))]) [3] [0, 1, 2, 4, 5, 6, 7] rfl (by decide) rfl rfl hP hD
      refine wz_callv (va_runV (As := [.int (nI j), .int (nI 0)]) (rest := []) ⟨hx, hb, hml, hown, hts⟩ (c_B_begin l D q ak (am 0) (ag 0) 6 (pz_fact n) fk wk rk z3 y3 d3 m3 c3 j (nI 0) (by omega) (by omega) hw3 _) (cwV 2 hts (wz_goodV kw_319 kw_320 kw_321 kw_36 kw_322) rfl rfl rfl (by decide +kernel) ⟨Nat.le_of_ble_eq_true rfl, Nat.le_of_ble_eq_true rfl⟩) (wz_preV (gi := 0) (k := 0) hN hK hQ wz_L_ok rfl rfl rfl) rfl rfl hl.1 rfl (lv_room (Nat.le_of_ble_eq_true rfl)) d_S_findRow_48 ⟨Nat.le_of_ble_eq_true rfl, Nat.le_of_ble_eq_true rfl⟩) hQ hS hA (fun gx H locs hp hP hD hS => ?_)
      obtain ⟨g3, hg3, rfl⟩ := hp
      have hT0 := bl_begin (wy := wk) (re := rk) hok2.1 hG2l hj hg3
      obtain ⟨hP, hD⟩ := wz_ord (n := 8) (gs' := [se_W q as9 n (am 0) (ag 0) (ab 0) (ac 0) (ak 0) (pz_fact n) rw bg sa ro (-1) 0, bl_W q ab (am 0) (ag 0) 0 (pz_fact n) f1 w1 e1 S1.1.length y1 d1 (nI 0) (bl_b b1), bl_W q ac (am 0) (ag 0) 0 (pz_fact n) f2 w2 e2 S2.1.length y2 d2 (nI 1) (bl_b b2), bl_W q ak (am 0) (ag 0) 6 (pz_fact n) (upd g3 j (nI 0)) (vp_updL (vp_updL wk j 0) j 1) (upd rk 0 (nI j)) 1 0 0 (nI 0) (nI 0), gq_W q ag (am 0) (pz_fact n) (2 ^ b) (32 - b) rl st2 sl2 G2.length, wz_rows 12 rl (fun i9 => .inl (q.1, pz_fact n, .inl (L2 i9))), mv_W q am n k rt fo, wz_rows 12 rt (fun i9 => .inl (q.1, 8, .inl (M i9)))]) [1, 2, 3, 0, 4, 5, 6, 7] rfl (by decide) rfl hP hD
      have hP : va_P D vwCl ([se_W q as9 n (am 0) (ag 0) (ab 0) (ac 0) (ak 0) (pz_fact n) rw bg sa ro (-1) 0, bl_W q ab (am 0) (ag 0) 0 (pz_fact n) f1 w1 e1 S1.1.length y1 d1 (nI 0) (bl_b b1), bl_W q ac (am 0) (ag 0) 0 (pz_fact n) f2 w2 e2 S2.1.length y2 d2 (nI 1) (bl_b b2), bl_W q ak (am 0) (ag 0) 6 (pz_fact n) (upd g3 j (nI 0)) (vp_updL (vp_updL wk j 0) j 1) (upd rk 0 (nI j)) ((pz_S0 gl).1.length) 0 0 (nI 0) (bl_b false), gq_W q ag (am 0) (pz_fact n) (2 ^ b) (32 - b) rl st2 sl2 G2.length, wz_rows 12 rl (fun i9 => .inl (q.1, pz_fact n, .inl (L2 i9))), mv_W q am n k rt fo, wz_rows 12 rt (fun i9 => .inl (q.1, 8, .inl (M i9)))] : wz_G).flatten H := hP
      have hD : va_D A ([se_W q as9 n (am 0) (ag 0) (ab 0) (ac 0) (ak 0) (pz_fact n) rw bg sa ro (-1) 0, bl_W q ab (am 0) (ag 0) 0 (pz_fact n) f1 w1 e1 S1.1.length y1 d1 (nI 0) (bl_b b1), bl_W q ac (am 0) (ag 0) 0 (pz_fact n) f2 w2 e2 S2.1.length y2 d2 (nI 1) (bl_b b2), bl_W q ak (am 0) (ag 0) 6 (pz_fact n) (upd g3 j (nI 0)) (vp_updL (vp_updL wk j 0) j 1) (upd rk 0 (nI j)) ((pz_S0 gl).1.length) 0 0 (nI 0) (bl_b false), gq_W q ag (am 0) (pz_fact n) (2 ^ b) (32 - b) rl st2 sl2 G2.length, wz_rows 12 rl (fun i9 => .inl (q.1, pz_fact n, .inl (L2 i9))), mv_W q am n k rt fo, wz_rows 12 rt (fun i9 => .inl (q.1, 8, .inl (M i9)))] : wz_G).flatten := hD
      refine lv_aload_n hx hb d_S_findRow_51 rfl (lv_at hl 1 rfl) ?_
      refine lv_aload_n hx hb d_S_findRow_52 rfl (lv_at hl 1 rfl) ?_
      refine lv_aload hx hb d_S_findRow_53 (lv_at hl 0 rfl) ?_
      refine lv_iload_n hx hb d_S_findRow_55 rfl (lv_at hl 3 rfl) ?_
      have hQ := wz_split (n := 8) (gc := [se_W q as9 n (am 0) (ag 0) (ab 0) (ac 0) (ak 0) (pz_fact n) rw bg sa ro (-1) 0, bl_W q ab (am 0) (ag 0) 0 (pz_fact n) f1 w1 e1 S1.1.length y1 d1 (nI 0) (bl_b b1), bl_W q ak (am 0) (ag 0) 6 (pz_fact n) (upd g3 j (nI 0)) (vp_updL (vp_updL wk j 0) j 1) (upd rk 0 (nI j)) ((pz_S0 gl).1.length) 0 0 (nI 0) (bl_b false), gq_W q ag (am 0) (pz_fact n) (2 ^ b) (32 - b) rl st2 sl2 G2.length, wz_rows 12 rl (fun i9 => .inl (q.1, pz_fact n, .inl (L2 i9))), mv_W q am n k rt fo, wz_rows 12 rt (fun i9 => .inl (q.1, 8, .inl (M i9)))]) (gr := [bl_W q ac (am 0) (ag 0) 0 (pz_fact n) f2 w2 e2 S2.1.length y2 d2 (nI 1) (bl_b b2)]) [0, 1, 3, 4, 5, 6, 7] [2] rfl (by decide) rfl rfl hP hD
      refine wz_calli (va_runV (As := [.ref (ab 0), .int (nI ms9)]) (rest := [.ref (as9 0)]) ⟨hx, hb, hml, hown, hts⟩ (c_S_meet l D q as9 ab ak ag am n b k rl rt fo M sg tu od sa (ab 0) (ac 0) rw bg sa ro (-1) 0 G2 st2 sl2 L2 S1 f1 w1 e1 y1 d1 (nI 0) (bl_b b1) (pz_S0 gl) (upd g3 j (nI 0)) (vp_updL (vp_updL wk j 0) j 1) (upd rk 0 (nI j)) 0 0 (bl_b false) sa gl ms9 b1 false hn hb0 hb30 hM hk hmv hok2 hS1a hT0 hrv hms hba1 rfl hdy1 rfl rfl rfl rfl _) (cwV 2 hts (wz_goodV kw_339 kw_341 kw_7 kw_34 kw_342) rfl rfl rfl (by decide +kernel) ⟨Nat.le_of_ble_eq_true rfl, Nat.le_of_ble_eq_true rfl⟩) (wz_preV (gi := 0) (k := 0) hN hK hQ wz_L_ok rfl rfl rfl) rfl rfl hl.1 rfl (lv_room (Nat.le_of_ble_eq_true rfl)) d_S_findRow_56 ⟨Nat.le_of_ble_eq_true rfl, Nat.le_of_ble_eq_true rfl⟩) hQ hS hA (fun v_56 gx H locs hp hP hD hS => ?_)
      obtain ⟨G3, st3, sl3, L3, Sx, fx, wx, ex, yx, dx, bx, Tx, fkx, wkx, rkx, lkx, dkx, ccx, rfl, ⟨Nb, hNb⟩, hok3, hSx, hTx, hbx, hbTx, hdyx, hdkx, hres⟩ := hp
      have hG3l := gq_len hok3
      have hO3 := bl_more hS2a ⟨Nb, hNb⟩ hok3.1 hG3l
      obtain ⟨hP, hD⟩ := wz_ord (n := 8) (gs' := [se_W q as9 n (am 0) (ag 0) (ab 0) (ac 0) (ak 0) (pz_fact n) rw bg sa ro (-1) 0, bl_W q ab (am 0) (ag 0) 0 (pz_fact n) fx wx ex Sx.1.length yx dx (nI 0) (bl_b bx), bl_W q ac (am 0) (ag 0) 0 (pz_fact n) f2 w2 e2 S2.1.length y2 d2 (nI 1) (bl_b b2), bl_W q ak (am 0) (ag 0) 6 (pz_fact n) fkx wkx rkx Tx.1.length lkx dkx (nI 0) (bl_b ccx), gq_W q ag (am 0) (pz_fact n) (2 ^ b) (32 - b) rl st3 sl3 G3.length, wz_rows 12 rl (fun i9 => .inl (q.1, pz_fact n, .inl (L3 i9))), mv_W q am n k rt fo, wz_rows 12 rt (fun i9 => .inl (q.1, 8, .inl (M i9)))]) [0, 1, 7, 2, 3, 4, 5, 6] rfl (by decide) rfl hP hD
      rcases hres with ⟨rfl, hnone⟩ | ⟨len, i9, rfl, hdist, hlm, hl9, hi9⟩
      · skip
        refine wz_put (gs' := [se_W q as9 n (am 0) (ag 0) (ab 0) (ac 0) (ak 0) (pz_fact n) rw bg sa ro (-1) 0, bl_W q ab (am 0) (ag 0) 0 (pz_fact n) fx wx ex Sx.1.length yx dx (nI 0) (bl_b bx), bl_W q ac (am 0) (ag 0) 0 (pz_fact n) f2 w2 e2 S2.1.length y2 d2 (nI 1) (bl_b b2), bl_W q ak (am 0) (ag 0) 6 (pz_fact n) fkx wkx rkx Tx.1.length lkx dkx (nI 0) (bl_b ccx), gq_W q ag (am 0) (pz_fact n) (2 ^ b) (32 - b) rl st3 sl3 G3.length, wz_rows 12 rl (fun i9 => .inl (q.1, pz_fact n, .inl (L3 i9))), mv_W q am n k rt fo, wz_rows 12 rt (fun i9 => .inl (q.1, 8, .inl (M i9)))]) (v := .int (-1)) (T := T_S) (N := 12) hx hb hts i_S t_S t_S_ok n_S hown hK hP hD hS 0 0 rfl rfl rfl 10 (by decide) (hts _ kw_273) rfl rfl (ty := t_S 10) (by decide +kernel) rfl rfl (Nat.le_of_ble_eq_true rfl) d_S_findRow_59 rfl (fun H locs hP hD hS => ?_)
        refine lv_aload_n hx hb d_S_findRow_62 rfl (lv_at hl 1 rfl) ?_
        refine wz_get (v := .int (-1)) (T := T_S) (N := 12) hx hb hts i_S hown hK hP 0 0 rfl rfl rfl 10 (by decide) (hts _ kw_273) rfl rfl d_S_findRow_63 ?_
        refine lv_iconst (v := (-1)) hx hb d_S_findRow_66 (by decide) ?_
        refine lv_icmp_eq (tgt := 90) hx hb d_S_findRow_67 (by decide) (fun hc2 => ?_) (fun hc2 => ?_)
        · skip
          refine lv_aload_n hx hb d_S_findRow_90 rfl (lv_at hl 1 rfl) ?_
          refine wz_get (v := .int (-1)) (T := T_S) (N := 12) hx hb hts i_S hown hK hP 0 0 rfl rfl rfl 10 (by decide) (hts _ kw_273) rfl rfl d_S_findRow_91 ?_
          exact wz_iret hx hb hr hlocks hK hP hD hS d_S_findRow_94 ⟨G3, st3, sl3, L3, Sx, fx, wx, ex, yx, dx, bx, S2, f2, w2, e2, y2, d2, b2, fkx, wkx, rkx, Tx.1.length, lkx, dkx, nI 0, bl_b ccx, rw, (-1), 0, rfl, ⟨Na ++ Nb, by rw [hNb, hNa, List.append_assoc]⟩, hok3, ⟨hSx, hbx, hdyx⟩, ⟨hO3, hba2, hdy2⟩, bl_ok_raw hTx hG3l hok3.1, Or.inl ⟨rfl, rfl, rfl, hnone⟩⟩
        · skip
          exact absurd rfl hc2
      · skip
        have hlf := pz_dist_len harr (pz_arr_self hsa) hdist
        refine wz_put (gs' := [se_W q as9 n (am 0) (ag 0) (ab 0) (ac 0) (ak 0) (pz_fact n) rw bg sa ro (nI len) 0, bl_W q ab (am 0) (ag 0) 0 (pz_fact n) fx wx ex Sx.1.length yx dx (nI 0) (bl_b bx), bl_W q ac (am 0) (ag 0) 0 (pz_fact n) f2 w2 e2 S2.1.length y2 d2 (nI 1) (bl_b b2), bl_W q ak (am 0) (ag 0) 6 (pz_fact n) fkx wkx rkx Tx.1.length lkx dkx (nI 0) (bl_b ccx), gq_W q ag (am 0) (pz_fact n) (2 ^ b) (32 - b) rl st3 sl3 G3.length, wz_rows 12 rl (fun i9 => .inl (q.1, pz_fact n, .inl (L3 i9))), mv_W q am n k rt fo, wz_rows 12 rt (fun i9 => .inl (q.1, 8, .inl (M i9)))]) (v := .int (nI len)) (T := T_S) (N := 12) hx hb hts i_S t_S t_S_ok n_S hown hK hP hD hS 0 0 rfl rfl rfl 10 (by decide) (hts _ kw_273) rfl rfl (ty := t_S 10) (by decide +kernel) rfl rfl (Nat.le_of_ble_eq_true rfl) d_S_findRow_59 rfl (fun H locs hP hD hS => ?_)
        refine lv_aload_n hx hb d_S_findRow_62 rfl (lv_at hl 1 rfl) ?_
        refine wz_get (v := .int (nI len)) (T := T_S) (N := 12) hx hb hts i_S hown hK hP 0 0 rfl rfl rfl 10 (by decide) (hts _ kw_273) rfl rfl d_S_findRow_63 ?_
        refine lv_iconst (v := (-1)) hx hb d_S_findRow_66 (by decide) ?_
        refine lv_icmp_eq (tgt := 90) hx hb d_S_findRow_67 (by decide) (fun hc2 => ?_) (fun hc2 => ?_)
        · skip
          exact absurd hc2 (fun q => by have h9 : ¬ (nI len < 0) := nI_pos (by omega); rw [q] at h9; exact absurd (by decide) h9)
        · skip
          refine lv_aload_n hx hb d_S_findRow_70 rfl (lv_at hl 1 rfl) ?_
          refine lv_aload_n hx hb d_S_findRow_71 rfl (lv_at hl 1 rfl) ?_
          refine lv_aload hx hb d_S_findRow_72 (lv_at hl 0 rfl) ?_
          have hQ := wz_split (n := 8) (gc := [se_W q as9 n (am 0) (ag 0) (ab 0) (ac 0) (ak 0) (pz_fact n) rw bg sa ro (nI len) 0, bl_W q ab (am 0) (ag 0) 0 (pz_fact n) fx wx ex Sx.1.length yx dx (nI 0) (bl_b bx), bl_W q ak (am 0) (ag 0) 6 (pz_fact n) fkx wkx rkx Tx.1.length lkx dkx (nI 0) (bl_b ccx), gq_W q ag (am 0) (pz_fact n) (2 ^ b) (32 - b) rl st3 sl3 G3.length, wz_rows 12 rl (fun i9 => .inl (q.1, pz_fact n, .inl (L3 i9))), mv_W q am n k rt fo, wz_rows 12 rt (fun i9 => .inl (q.1, 8, .inl (M i9)))]) (gr := [bl_W q ac (am 0) (ag 0) 0 (pz_fact n) f2 w2 e2 S2.1.length y2 d2 (nI 1) (bl_b b2)]) [0, 1, 3, 4, 5, 6, 7] [2] rfl (by decide) rfl rfl hP hD
          refine wz_calll (va_runV (As := [.ref (ab 0)]) (rest := [.ref (as9 0)]) ⟨hx, hb, hml, hown, hts⟩ (c_S_waysThroughMeeting l D q as9 ab ak ag am n b k rl rt fo M sg tu od sa (ab 0) (ac 0) rw bg sa ro (nI len) 0 G3 st3 sl3 L3 Sx fx wx ex yx dx (nI 0) (bl_b bx) Tx fkx wkx rkx lkx dkx (bl_b ccx) sa gl len i9 bx ccx hn hb0 hb30 hM hk hmv hok3 hSx hTx hrv hbx hbTx hdyx hdkx rfl hl9 hi9 hdist _) (cwV 1 hts (wz_goodV kw_369 kw_371 kw_9 kw_34 kw_372) rfl rfl rfl (by decide +kernel) ⟨Nat.le_of_ble_eq_true rfl, Nat.le_of_ble_eq_true rfl⟩) (wz_preV (gi := 0) (k := 0) hN hK hQ wz_L_ok rfl rfl rfl) rfl rfl hl.1 rfl (lv_room (Nat.le_of_ble_eq_true rfl)) d_S_findRow_74 ⟨Nat.le_of_ble_eq_true rfl, Nat.le_of_ble_eq_true rfl⟩) hQ hS hA (fun v_74 gx H locs hp hP hD hS => ?_)
          obtain ⟨rfl, rfl⟩ := hp
          obtain ⟨hP, hD⟩ := wz_ord (n := 8) (gs' := [se_W q as9 n (am 0) (ag 0) (ab 0) (ac 0) (ak 0) (pz_fact n) rw bg sa ro (nI len) 0, bl_W q ab (am 0) (ag 0) 0 (pz_fact n) fx wx ex Sx.1.length yx dx (nI 0) (bl_b bx), bl_W q ac (am 0) (ag 0) 0 (pz_fact n) f2 w2 e2 S2.1.length y2 d2 (nI 1) (bl_b b2), bl_W q ak (am 0) (ag 0) 6 (pz_fact n) fkx wkx rkx Tx.1.length lkx dkx (nI 0) (bl_b ccx), gq_W q ag (am 0) (pz_fact n) (2 ^ b) (32 - b) rl st3 sl3 G3.length, wz_rows 12 rl (fun i9 => .inl (q.1, pz_fact n, .inl (L3 i9))), mv_W q am n k rt fo, wz_rows 12 rt (fun i9 => .inl (q.1, 8, .inl (M i9)))]) [0, 1, 7, 2, 3, 4, 5, 6] rfl (by decide) rfl hP hD
          refine wz_put (gs' := [se_W q as9 n (am 0) (ag 0) (ab 0) (ac 0) (ak 0) (pz_fact n) rw bg sa ro (nI len) (lN (pz_cnt gl (pz_ends (bl_s n k 0 sg tu od (nI 0)) sa len))), bl_W q ab (am 0) (ag 0) 0 (pz_fact n) fx wx ex Sx.1.length yx dx (nI 0) (bl_b bx), bl_W q ac (am 0) (ag 0) 0 (pz_fact n) f2 w2 e2 S2.1.length y2 d2 (nI 1) (bl_b b2), bl_W q ak (am 0) (ag 0) 6 (pz_fact n) fkx wkx rkx Tx.1.length lkx dkx (nI 0) (bl_b ccx), gq_W q ag (am 0) (pz_fact n) (2 ^ b) (32 - b) rl st3 sl3 G3.length, wz_rows 12 rl (fun i9 => .inl (q.1, pz_fact n, .inl (L3 i9))), mv_W q am n k rt fo, wz_rows 12 rt (fun i9 => .inl (q.1, 8, .inl (M i9)))]) (v := .long (lN (pz_cnt gl (pz_ends (bl_s n k 0 sg tu od (nI 0)) sa len)))) (T := T_S) (N := 12) hx hb hts i_S t_S t_S_ok n_S hown hK hP hD hS 0 0 rfl rfl rfl 11 (by decide) (hts _ kw_275) rfl rfl (ty := t_S 11) (by decide +kernel) rfl rfl (Nat.le_of_ble_eq_true rfl) d_S_findRow_77 rfl (fun H locs hP hD hS => ?_)
          refine lv_aload_n hx hb d_S_findRow_80 rfl (lv_at hl 1 rfl) ?_
          refine lv_aload hx hb d_S_findRow_81 (lv_at hl 0 rfl) ?_
          have hQ := wz_split (n := 8) (gc := [se_W q as9 n (am 0) (ag 0) (ab 0) (ac 0) (ak 0) (pz_fact n) rw bg sa ro (nI len) (lN (pz_cnt gl (pz_ends (bl_s n k 0 sg tu od (nI 0)) sa len))), bl_W q ab (am 0) (ag 0) 0 (pz_fact n) fx wx ex Sx.1.length yx dx (nI 0) (bl_b bx), bl_W q ak (am 0) (ag 0) 6 (pz_fact n) fkx wkx rkx Tx.1.length lkx dkx (nI 0) (bl_b ccx), gq_W q ag (am 0) (pz_fact n) (2 ^ b) (32 - b) rl st3 sl3 G3.length, wz_rows 12 rl (fun i9 => .inl (q.1, pz_fact n, .inl (L3 i9))), mv_W q am n k rt fo, wz_rows 12 rt (fun i9 => .inl (q.1, 8, .inl (M i9)))]) (gr := [bl_W q ac (am 0) (ag 0) 0 (pz_fact n) f2 w2 e2 S2.1.length y2 d2 (nI 1) (bl_b b2)]) [0, 1, 3, 4, 5, 6, 7] [2] rfl (by decide) rfl rfl hP hD
          refine wz_callv (va_runV (As := [.ref (ab 0)]) (rest := []) ⟨hx, hb, hml, hown, hts⟩ (c_S_leadBackToStart l D q as9 ab ak ag am n b k rl rt fo M sg tu od sa (ab 0) (ac 0) rw bg sa ro (nI len) (lN (pz_cnt gl (pz_ends (bl_s n k 0 sg tu od (nI 0)) sa len))) G3 st3 sl3 L3 Sx fx wx ex yx dx (nI 0) (bl_b bx) Tx fkx wkx rkx lkx dkx (bl_b ccx) sa gl len i9 bx ccx hn hb0 hb30 hM hk hmv hok3 hSx hTx hrv hbx hdyx hdist (fun c9 e9 h9 => by have := pz_ball_le hbTx h9; omega) (by omega) hbTx rfl hl9 hi9 _) (cwV 1 hts (wz_goodV kw_373 kw_375 kw_10 kw_34 kw_376) rfl rfl rfl (by decide +kernel) ⟨Nat.le_of_ble_eq_true rfl, Nat.le_of_ble_eq_true rfl⟩) (wz_preV (gi := 0) (k := 0) hN hK hQ wz_L_ok rfl rfl rfl) rfl rfl hl.1 rfl (lv_room (Nat.le_of_ble_eq_true rfl)) d_S_findRow_83 ⟨Nat.le_of_ble_eq_true rfl, Nat.le_of_ble_eq_true rfl⟩) hQ hS hA (fun gx H locs hp hP hD hS => ?_)
          obtain ⟨G4, st4, sl4, L4, Ty, fky, wky, rky, rfl, ⟨Nc, hNc⟩, hok4, ⟨hSy, hTy, -, -, hley⟩, hTe, hTa⟩ := hp
          have hG4l := gq_len hok4
          have hO4 := bl_more hO3 ⟨Nc, hNc⟩ hok4.1 hG4l
          have hro4 : G4[ro]? = some sa := by rw [hNc, hNb, hNa, List.append_assoc, List.append_assoc, List.getElem?_append_left hrl]; exact hro
          obtain ⟨hP, hD⟩ := wz_ord (n := 8) (gs' := [se_W q as9 n (am 0) (ag 0) (ab 0) (ac 0) (ak 0) (pz_fact n) rw bg sa ro (nI len) (lN (pz_cnt gl (pz_ends (bl_s n k 0 sg tu od (nI 0)) sa len))), bl_W q ab (am 0) (ag 0) 0 (pz_fact n) fx wx ex Sx.1.length yx dx (nI 0) (bl_b bx), bl_W q ac (am 0) (ag 0) 0 (pz_fact n) f2 w2 e2 S2.1.length y2 d2 (nI 1) (bl_b b2), bl_W q ak (am 0) (ag 0) 6 (pz_fact n) fky wky rky Ty.1.length lkx dkx (nI 0) (bl_b ccx), gq_W q ag (am 0) (pz_fact n) (2 ^ b) (32 - b) rl st4 sl4 G4.length, wz_rows 12 rl (fun i9 => .inl (q.1, pz_fact n, .inl (L4 i9))), mv_W q am n k rt fo, wz_rows 12 rt (fun i9 => .inl (q.1, 8, .inl (M i9)))]) [0, 1, 7, 2, 3, 4, 5, 6] rfl (by decide) rfl hP hD
          refine lv_aload_n hx hb d_S_findRow_86 rfl (lv_at hl 1 rfl) ?_
          have hQ := wz_split (n := 8) (gc := [se_W q as9 n (am 0) (ag 0) (ab 0) (ac 0) (ak 0) (pz_fact n) rw bg sa ro (nI len) (lN (pz_cnt gl (pz_ends (bl_s n k 0 sg tu od (nI 0)) sa len))), bl_W q ak (am 0) (ag 0) 6 (pz_fact n) fky wky rky Ty.1.length lkx dkx (nI 0) (bl_b ccx), gq_W q ag (am 0) (pz_fact n) (2 ^ b) (32 - b) rl st4 sl4 G4.length, wz_rows 12 rl (fun i9 => .inl (q.1, pz_fact n, .inl (L4 i9))), mv_W q am n k rt fo, wz_rows 12 rt (fun i9 => .inl (q.1, 8, .inl (M i9)))]) (gr := [bl_W q ab (am 0) (ag 0) 0 (pz_fact n) fx wx ex Sx.1.length yx dx (nI 0) (bl_b bx), bl_W q ac (am 0) (ag 0) 0 (pz_fact n) f2 w2 e2 S2.1.length y2 d2 (nI 1) (bl_b b2)]) [0, 3, 4, 5, 6, 7] [1, 2] rfl (by decide) rfl rfl hP hD
          refine wz_callv (va_runV (As := []) (rest := []) ⟨hx, hb, hml, hown, hts⟩ (c_S_walkLeastRow l D q as9 ak ag am n b k rl rt fo M sg tu od sa (ab 0) (ac 0) rw bg sa ro (nI len) (lN (pz_cnt gl (pz_ends (bl_s n k 0 sg tu od (nI 0)) sa len))) G4 st4 sl4 L4 Ty fky wky rky lkx dkx (nI 0) (bl_b ccx) sa gl len hn hb0 hb30 hM hk hmv hok4 hTy hrv hro4 rfl hlf hdist (fun y9 e9 h9 => by have := hley y9 e9 h9; omega) hTe hTa _) (cwV 0 hts (wz_goodV kw_384 kw_386 kw_12 kw_34 kw_387) rfl rfl rfl (by decide +kernel) ⟨Nat.le_of_ble_eq_true rfl, Nat.le_of_ble_eq_true rfl⟩) (wz_preV (gi := 0) (k := 0) hN hK hQ wz_L_ok rfl rfl rfl) rfl rfl hl.1 rfl (lv_room (Nat.le_of_ble_eq_true rfl)) d_S_findRow_87 ⟨Nat.le_of_ble_eq_true rfl, Nat.le_of_ble_eq_true rfl⟩) hQ hS hA (fun gx H locs hp hP hD hS => ?_)
          obtain ⟨G5, st5, sl5, L5, rw5, mv9, tm9, X9, rfl, ⟨⟨Nd, hNd⟩, hok5⟩, hT5, hrow, hrw⟩ := hp
          have hG5l := gq_len hok5
          have hO5 := bl_more hO4 ⟨Nd, hNd⟩ hok5.1 hG5l
          have hS5 := bl_more hSy ⟨Nd, hNd⟩ hok5.1 hG5l
          obtain ⟨hP, hD⟩ := wz_ord (n := 8) (gs' := [se_W q as9 n (am 0) (ag 0) (ab 0) (ac 0) (ak 0) (pz_fact n) rw5 bg sa ro (nI len) (lN (pz_cnt gl (pz_ends (bl_s n k 0 sg tu od (nI 0)) sa len))), bl_W q ab (am 0) (ag 0) 0 (pz_fact n) fx wx ex Sx.1.length yx dx (nI 0) (bl_b bx), bl_W q ac (am 0) (ag 0) 0 (pz_fact n) f2 w2 e2 S2.1.length y2 d2 (nI 1) (bl_b b2), bl_W q ak (am 0) (ag 0) 6 (pz_fact n) fky wky rky Ty.1.length lkx dkx (nI 0) (bl_b ccx), gq_W q ag (am 0) (pz_fact n) (2 ^ b) (32 - b) rl st5 sl5 G5.length, wz_rows 12 rl (fun i9 => .inl (q.1, pz_fact n, .inl (L5 i9))), mv_W q am n k rt fo, wz_rows 12 rt (fun i9 => .inl (q.1, 8, .inl (M i9)))]) [0, 6, 7, 1, 2, 3, 4, 5] rfl (by decide) rfl hP hD
          refine lv_aload_n hx hb d_S_findRow_90 rfl (lv_at hl 1 rfl) ?_
          refine wz_get (v := .int (nI len)) (T := T_S) (N := 12) hx hb hts i_S hown hK hP 0 0 rfl rfl rfl 10 (by decide) (hts _ kw_273) rfl rfl d_S_findRow_91 ?_
          exact wz_iret hx hb hr hlocks hK hP hD hS d_S_findRow_94 ⟨G5, st5, sl5, L5, Sx, fx, wx, ex, yx, dx, bx, S2, f2, w2, e2, y2, d2, b2, fky, wky, rky, Ty.1.length, lkx, dkx, nI 0, bl_b ccx, rw5, nI len, lN (pz_cnt gl (pz_ends (bl_s n k 0 sg tu od (nI 0)) sa len)), rfl, ⟨Na ++ (Nb ++ (Nc ++ Nd)), by rw [hNd, hNc, hNb, hNa, List.append_assoc, List.append_assoc, List.append_assoc]⟩, hok5, ⟨hS5, hbx, hdyx⟩, ⟨hO5, hba2, hdy2⟩, bl_ok_raw hT5 hG5l hok5.1, Or.inr ⟨len, mv9, tm9, X9, rfl, rfl, hdist, hlm, hlf, rfl, hrow, hrw⟩⟩
    · skip
      refine lv_iconst (v := (-1)) hx hb d_S_findRow_26 (by decide) ?_
      exact wz_iret hx hb hr hlocks hK hP hD hS d_S_findRow_27 ⟨G, st, sl, L, S1, f1, w1, e1, y1, d1, b1, S2, f2, w2, e2, y2, d2, b2, fk, wk, rk, z3, y3, d3, m3, c3, rw, -1, 0, rfl, ⟨[], by simp⟩, hok, ⟨hS1, hba1, hdy1⟩, ⟨hS2, hba2, hdy2⟩, hw3, Or.inl ⟨rfl, rfl, rfl, fun K9 hK9 => absurd (congrArg nI (pz_arr_tal (pz_ends_arr harr (pz_arr_self hsa) K9 gl hK9.1))) hc⟩⟩
  · skip
    have hrv := bl_rev (me := nI 1) hmv hk
    have harr := bl_s_arr (me := nI 1) (a0 := sa) hmv hk (Or.inl rfl)
    refine lv_aload_n hx hb d_S_findRow_0 rfl (lv_at hl 0 rfl) ?_
    have hQ := wz_split (n := 8) (gc := [se_W q as9 n (am 0) (ag 0) (ab 0) (ac 0) (ak 0) (pz_fact n) rw bg sa ro ln wz]) (gr := [bl_W q ab (am 0) (ag 0) 0 (pz_fact n) f1 w1 e1 S1.1.length y1 d1 (nI 0) (bl_b b1), bl_W q ac (am 0) (ag 0) 0 (pz_fact n) f2 w2 e2 S2.1.length y2 d2 (nI 1) (bl_b b2), bl_W q ak (am 0) (ag 0) 6 (pz_fact n) fk wk rk z3 y3 d3 m3 c3, gq_W q ag (am 0) (pz_fact n) (2 ^ b) (32 - b) rl st sl G.length, wz_rows 12 rl (fun i9 => .inl (q.1, pz_fact n, .inl (L i9))), mv_W q am n k rt fo, wz_rows 12 rt (fun i9 => .inl (q.1, 8, .inl (M i9)))]) [0] [1, 2, 3, 4, 5, 6, 7] rfl (by decide) rfl rfl hP hD
    refine wz_callv (va_runV (As := []) (rest := []) ⟨hx, hb, hml, hown, hts⟩ (c_S_forgetRow l D q as9 n (am 0) (ag 0) (ab 0) (ac 0) (ak 0) (pz_fact n) rw bg sa ro ln wz _) (cwV 0 hts (wz_goodV kw_331 kw_113 kw_114 kw_34 kw_115) rfl rfl rfl (by decide +kernel) ⟨Nat.le_of_ble_eq_true rfl, Nat.le_of_ble_eq_true rfl⟩) (wz_preV (gi := 0) (k := 0) hN hK hQ wz_L_ok rfl rfl rfl) rfl rfl hl.1 rfl (lv_room (Nat.le_of_ble_eq_true rfl)) d_S_findRow_1 ⟨Nat.le_of_ble_eq_true rfl, Nat.le_of_ble_eq_true rfl⟩) hQ hS hA (fun gx H locs hp hP hD hS => ?_)
    have hp : gx = _ := hp
    subst hp
    obtain ⟨hP, hD⟩ := wz_ord (n := 8) (gs' := [se_W q as9 n (am 0) (ag 0) (ab 0) (ac 0) (ak 0) (pz_fact n) rw bg sa ro (-1) 0, bl_W q ab (am 0) (ag 0) 0 (pz_fact n) f1 w1 e1 S1.1.length y1 d1 (nI 0) (bl_b b1), bl_W q ac (am 0) (ag 0) 0 (pz_fact n) f2 w2 e2 S2.1.length y2 d2 (nI 1) (bl_b b2), bl_W q ak (am 0) (ag 0) 6 (pz_fact n) fk wk rk z3 y3 d3 m3 c3, gq_W q ag (am 0) (pz_fact n) (2 ^ b) (32 - b) rl st sl G.length, wz_rows 12 rl (fun i9 => .inl (q.1, pz_fact n, .inl (L i9))), mv_W q am n k rt fo, wz_rows 12 rt (fun i9 => .inl (q.1, 8, .inl (M i9)))]) [0, 1, 2, 3, 4, 5, 6, 7] rfl (by decide) rfl hP hD
    refine lv_aload_n hx hb d_S_findRow_4 rfl (lv_at hl 0 rfl) ?_
    refine wz_get (v := .int (nI sa)) (T := T_S) (N := 12) hx hb hts i_S hown hK hP 0 0 rfl rfl rfl 8 (by decide) (hts _ kw_271) rfl rfl d_S_findRow_5 ?_
    refine lv_aload_n hx hb d_S_findRow_8 rfl (lv_at hl 0 rfl) ?_
    refine wz_get (v := .int (nI n)) (T := T_S) (N := 12) hx hb hts i_S hown hK hP 0 0 rfl rfl rfl 0 (by decide) (hts _ kw_261) rfl rfl d_S_findRow_9 ?_
    have hQ := wz_split (n := 8) (gc := []) (gr := [se_W q as9 n (am 0) (ag 0) (ab 0) (ac 0) (ak 0) (pz_fact n) rw bg sa ro (-1) 0, bl_W q ab (am 0) (ag 0) 0 (pz_fact n) f1 w1 e1 S1.1.length y1 d1 (nI 0) (bl_b b1), bl_W q ac (am 0) (ag 0) 0 (pz_fact n) f2 w2 e2 S2.1.length y2 d2 (nI 1) (bl_b b2), bl_W q ak (am 0) (ag 0) 6 (pz_fact n) fk wk rk z3 y3 d3 m3 c3, gq_W q ag (am 0) (pz_fact n) (2 ^ b) (32 - b) rl st sl G.length, wz_rows 12 rl (fun i9 => .inl (q.1, pz_fact n, .inl (L i9))), mv_W q am n k rt fo, wz_rows 12 rt (fun i9 => .inl (q.1, 8, .inl (M i9)))]) [] [0, 1, 2, 3, 4, 5, 6, 7] rfl (by decide) rfl rfl hP hD
    refine wz_calli (va_runSN (As := [.int (nI sa), .int (nI n)]) (rest := []) ⟨hx, hb, hml, hown, hts⟩ (c_X_tally l D q n sa hn hsa _) ⟨va_cnB 2 hts (wz_good kw_334) rfl rfl rfl (hN _ (List.mem_of_getElem? (i := 19) rfl)) (hts _ kw_30) (by decide +kernel) ⟨Nat.le_of_ble_eq_true rfl, Nat.le_of_ble_eq_true rfl⟩, hts _ kw_333, trivial⟩ (wz_preS hN hK hQ wz_L_ok) rfl rfl hl.1 rfl (lv_room (Nat.le_of_ble_eq_true rfl)) d_S_findRow_12 ⟨Nat.le_of_ble_eq_true rfl, Nat.le_of_ble_eq_true rfl⟩) hQ hS hA (fun v_12 gx H locs hp hP hD hS => ?_)
    obtain ⟨rfl, rfl⟩ := hp
    obtain ⟨hP, hD⟩ := wz_ord (n := 8) (gs' := [se_W q as9 n (am 0) (ag 0) (ab 0) (ac 0) (ak 0) (pz_fact n) rw bg sa ro (-1) 0, bl_W q ab (am 0) (ag 0) 0 (pz_fact n) f1 w1 e1 S1.1.length y1 d1 (nI 0) (bl_b b1), bl_W q ac (am 0) (ag 0) 0 (pz_fact n) f2 w2 e2 S2.1.length y2 d2 (nI 1) (bl_b b2), bl_W q ak (am 0) (ag 0) 6 (pz_fact n) fk wk rk z3 y3 d3 m3 c3, gq_W q ag (am 0) (pz_fact n) (2 ^ b) (32 - b) rl st sl G.length, wz_rows 12 rl (fun i9 => .inl (q.1, pz_fact n, .inl (L i9))), mv_W q am n k rt fo, wz_rows 12 rt (fun i9 => .inl (q.1, 8, .inl (M i9)))]) [0, 1, 2, 3, 4, 5, 6, 7] rfl (by decide) rfl hP hD
    refine lv_iload_n hx hb d_S_findRow_15 rfl (lv_at hl 3 rfl) ?_
    refine lv_aload_n hx hb d_S_findRow_16 rfl (lv_at hl 0 rfl) ?_
    refine wz_get (v := .int (nI n)) (T := T_S) (N := 12) hx hb hts i_S hown hK hP 0 0 rfl rfl rfl 0 (by decide) (hts _ kw_261) rfl rfl d_S_findRow_17 ?_
    have hQ := wz_split (n := 8) (gc := []) (gr := [se_W q as9 n (am 0) (ag 0) (ab 0) (ac 0) (ak 0) (pz_fact n) rw bg sa ro (-1) 0, bl_W q ab (am 0) (ag 0) 0 (pz_fact n) f1 w1 e1 S1.1.length y1 d1 (nI 0) (bl_b b1), bl_W q ac (am 0) (ag 0) 0 (pz_fact n) f2 w2 e2 S2.1.length y2 d2 (nI 1) (bl_b b2), bl_W q ak (am 0) (ag 0) 6 (pz_fact n) fk wk rk z3 y3 d3 m3 c3, gq_W q ag (am 0) (pz_fact n) (2 ^ b) (32 - b) rl st sl G.length, wz_rows 12 rl (fun i9 => .inl (q.1, pz_fact n, .inl (L i9))), mv_W q am n k rt fo, wz_rows 12 rt (fun i9 => .inl (q.1, 8, .inl (M i9)))]) [] [0, 1, 2, 3, 4, 5, 6, 7] rfl (by decide) rfl rfl hP hD
    refine wz_calli (va_runSN (As := [.int (nI gl), .int (nI n)]) (rest := [.int (nI (pz_tal sa n))]) ⟨hx, hb, hml, hown, hts⟩ (c_X_tally l D q n gl hn hgl _) ⟨va_cnB 2 hts (wz_good kw_334) rfl rfl rfl (hN _ (List.mem_of_getElem? (i := 19) rfl)) (hts _ kw_30) (by decide +kernel) ⟨Nat.le_of_ble_eq_true rfl, Nat.le_of_ble_eq_true rfl⟩, hts _ kw_333, trivial⟩ (wz_preS hN hK hQ wz_L_ok) rfl rfl hl.1 rfl (lv_room (Nat.le_of_ble_eq_true rfl)) d_S_findRow_20 ⟨Nat.le_of_ble_eq_true rfl, Nat.le_of_ble_eq_true rfl⟩) hQ hS hA (fun v_20 gx H locs hp hP hD hS => ?_)
    obtain ⟨rfl, rfl⟩ := hp
    obtain ⟨hP, hD⟩ := wz_ord (n := 8) (gs' := [se_W q as9 n (am 0) (ag 0) (ab 0) (ac 0) (ak 0) (pz_fact n) rw bg sa ro (-1) 0, bl_W q ab (am 0) (ag 0) 0 (pz_fact n) f1 w1 e1 S1.1.length y1 d1 (nI 0) (bl_b b1), bl_W q ac (am 0) (ag 0) 0 (pz_fact n) f2 w2 e2 S2.1.length y2 d2 (nI 1) (bl_b b2), bl_W q ak (am 0) (ag 0) 6 (pz_fact n) fk wk rk z3 y3 d3 m3 c3, gq_W q ag (am 0) (pz_fact n) (2 ^ b) (32 - b) rl st sl G.length, wz_rows 12 rl (fun i9 => .inl (q.1, pz_fact n, .inl (L i9))), mv_W q am n k rt fo, wz_rows 12 rt (fun i9 => .inl (q.1, 8, .inl (M i9)))]) [0, 1, 2, 3, 4, 5, 6, 7] rfl (by decide) rfl hP hD
    have ht1 := pz_tal_lt sa hn
    have ht2 := pz_tal_lt gl hn
    have ht3 : n * 16 ^ 7 ≤ 8 * 16 ^ 7 := Nat.mul_le_mul_right _ hn
    refine lv_icmp_eq (tgt := 28) hx hb d_S_findRow_23 (by decide) (fun hc => ?_) (fun hc => ?_)
    · skip
      have htal := nI_inj32 (by omega) (by omega) hc
      have hga : pz_arr n sa gl := ⟨hgl, pz_tal_perm hn htal⟩
      refine lv_aload_n hx hb d_S_findRow_28 rfl (lv_at hl 0 rfl) ?_
      refine lv_iload_n hx hb d_S_findRow_29 rfl (lv_at hl 1 rfl) ?_
      have hQ := wz_split (n := 8) (gc := [se_W q as9 n (am 0) (ag 0) (ab 0) (ac 0) (ak 0) (pz_fact n) rw bg sa ro (-1) 0]) (gr := [bl_W q ab (am 0) (ag 0) 0 (pz_fact n) f1 w1 e1 S1.1.length y1 d1 (nI 0) (bl_b b1), bl_W q ac (am 0) (ag 0) 0 (pz_fact n) f2 w2 e2 S2.1.length y2 d2 (nI 1) (bl_b b2), bl_W q ak (am 0) (ag 0) 6 (pz_fact n) fk wk rk z3 y3 d3 m3 c3, gq_W q ag (am 0) (pz_fact n) (2 ^ b) (32 - b) rl st sl G.length, wz_rows 12 rl (fun i9 => .inl (q.1, pz_fact n, .inl (L i9))), mv_W q am n k rt fo, wz_rows 12 rt (fun i9 => .inl (q.1, 8, .inl (M i9)))]) [0] [1, 2, 3, 4, 5, 6, 7] rfl (by decide) rfl rfl hP hD
      refine wz_callr (va_runV (As := [.int (nI 1)]) (rest := []) ⟨hx, hb, hml, hown, hts⟩ (c_S_ahead l D q as9 n (am 0) (ag 0) (ab 0) (ac 0) (ak 0) (pz_fact n) rw bg sa ro (-1) 0 (nI 1) _) (cwV 1 hts (wz_goodV kw_335 kw_336 kw_337 kw_34 kw_338) rfl rfl rfl (by decide +kernel) ⟨Nat.le_of_ble_eq_true rfl, Nat.le_of_ble_eq_true rfl⟩) (wz_preV (gi := 0) (k := 0) hN hK hQ wz_L_ok rfl rfl rfl) rfl rfl hl.1 rfl (lv_room (Nat.le_of_ble_eq_true rfl)) d_S_findRow_30 ⟨Nat.le_of_ble_eq_true rfl, Nat.le_of_ble_eq_true rfl⟩) hQ hS hA (fun v_30 gx H locs hp hP hD hS => ?_)
      obtain ⟨rfl, hv⟩ := hp
      have hv : v_30 = ac 0 := hv
      subst hv
      obtain ⟨hP, hD⟩ := wz_ord (n := 8) (gs' := [se_W q as9 n (am 0) (ag 0) (ab 0) (ac 0) (ak 0) (pz_fact n) rw bg sa ro (-1) 0, bl_W q ab (am 0) (ag 0) 0 (pz_fact n) f1 w1 e1 S1.1.length y1 d1 (nI 0) (bl_b b1), bl_W q ac (am 0) (ag 0) 0 (pz_fact n) f2 w2 e2 S2.1.length y2 d2 (nI 1) (bl_b b2), bl_W q ak (am 0) (ag 0) 6 (pz_fact n) fk wk rk z3 y3 d3 m3 c3, gq_W q ag (am 0) (pz_fact n) (2 ^ b) (32 - b) rl st sl G.length, wz_rows 12 rl (fun i9 => .inl (q.1, pz_fact n, .inl (L i9))), mv_W q am n k rt fo, wz_rows 12 rt (fun i9 => .inl (q.1, 8, .inl (M i9)))]) [0, 1, 2, 3, 4, 5, 6, 7] rfl (by decide) rfl hP hD
      refine lv_astore (lv' := [(4, .ref (ac 0)), (0, .ref (as9 0)), (1, .int (nI 1)), (2, .int (nI ms9)), (3, .int (nI gl))]) hx hb d_S_findRow_33 hl (by decide) rfl (fun ls hl => ?_)
      refine lv_aload_n hx hb d_S_findRow_35 rfl (lv_at hl 1 rfl) ?_
      refine wz_get (v := .ref (ak 0)) (T := T_S) (N := 12) hx hb hts i_S hown hK hP 0 0 rfl rfl rfl 5 (by decide) (hts _ kw_266) rfl rfl d_S_findRow_36 ?_
      refine lv_aload_n hx hb d_S_findRow_39 rfl (lv_at hl 1 rfl) ?_
      refine wz_get (v := .ref (ag 0)) (T := T_S) (N := 12) hx hb hts i_S hown hK hP 0 0 rfl rfl rfl 2 (by decide) (hts _ kw_263) rfl rfl d_S_findRow_40 ?_
      refine lv_iload_n hx hb d_S_findRow_43 rfl (lv_at hl 4 rfl) ?_
      have hQ := wz_split (n := 8) (gc := [gq_W q ag (am 0) (pz_fact n) (2 ^ b) (32 - b) rl st sl G.length, wz_rows 12 rl (fun i9 => .inl (q.1, pz_fact n, .inl (L i9))), mv_W q am n k rt fo]) (gr := [se_W q as9 n (am 0) (ag 0) (ab 0) (ac 0) (ak 0) (pz_fact n) rw bg sa ro (-1) 0, bl_W q ab (am 0) (ag 0) 0 (pz_fact n) f1 w1 e1 S1.1.length y1 d1 (nI 0) (bl_b b1), bl_W q ac (am 0) (ag 0) 0 (pz_fact n) f2 w2 e2 S2.1.length y2 d2 (nI 1) (bl_b b2), bl_W q ak (am 0) (ag 0) 6 (pz_fact n) fk wk rk z3 y3 d3 m3 c3, wz_rows 12 rt (fun i9 => .inl (q.1, 8, .inl (M i9)))]) [4, 5, 6] [0, 1, 2, 3, 7] rfl (by decide) rfl rfl hP hD
      refine wz_calli (va_runV (As := [.int (nI gl)]) (rest := [.ref (ak 0)]) ⟨hx, hb, hml, hown, hts⟩ (c_G_enter l D q ag am n b k rl rt fo st sl L sg tu G sa gl hn hb0 hb30 hM hk hok hga _) (cwV 1 hts (wz_goodV kw_315 kw_316 kw_317 kw_35 kw_318) rfl rfl rfl (by decide +kernel) ⟨Nat.le_of_ble_eq_true rfl, Nat.le_of_ble_eq_true rfl⟩) (wz_preV (gi := 0) (k := 0) hN hK hQ wz_L_ok rfl rfl rfl) rfl rfl hl.1 rfl (lv_room (Nat.le_of_ble_eq_true rfl)) d_S_findRow_44 ⟨Nat.le_of_ble_eq_true rfl, Nat.le_of_ble_eq_true rfl⟩) hQ hS hA (fun v_44 gx H locs hp hP hD hS => ?_)
      obtain ⟨G2, st2, sl2, L2, c9, j, rfl, rfl, rfl, hj, ⟨Na, hNa⟩, hok2⟩ := hp
      have hG2l := gq_len hok2
      have hjl := (List.getElem?_eq_some_iff.mp hj).1
      have hS1a := bl_more hS1 ⟨Na, hNa⟩ hok2.1 hG2l
      have hS2a := bl_more hS2 ⟨Na, hNa⟩ hok2.1 hG2l
      obtain ⟨hP, hD⟩ := wz_ord (n := 8) (gs' := [se_W q as9 n (am 0) (ag 0) (ab 0) (ac 0) (ak 0) (pz_fact n) rw bg sa ro (-1) 0, bl_W q ab (am 0) (ag 0) 0 (pz_fact n) f1 w1 e1 S1.1.length y1 d1 (nI 0) (bl_b b1), bl_W q ac (am 0) (ag 0) 0 (pz_fact n) f2 w2 e2 S2.1.length y2 d2 (nI 1) (bl_b b2), bl_W q ak (am 0) (ag 0) 6 (pz_fact n) fk wk rk z3 y3 d3 m3 c3, gq_W q ag (am 0) (pz_fact n) (2 ^ b) (32 - b) rl st2 sl2 G2.length, wz_rows 12 rl (fun i9 => .inl (q.1, pz_fact n, .inl (L2 i9))), mv_W q am n k rt fo, wz_rows 12 rt (fun i9 => .inl (q.1, 8, .inl (M i9)))]) [3, 4, 5, 6, 0, 1, 2, 7] rfl (by decide) rfl hP hD
      refine lv_iload_n hx hb d_S_findRow_47 rfl (lv_at hl 2 rfl) ?_
      have hQ := wz_split (n := 8) (gc := [bl_W q ak (am 0) (ag 0) 6 (pz_fact n) fk wk rk z3 y3 d3 m3 c3]) (gr := [se_W q as9 n (am 0) (ag 0) (ab 0) (ac 0) (ak 0) (pz_fact n) rw bg sa ro (-1) 0, bl_W q ab (am 0) (ag 0) 0 (pz_fact n) f1 w1 e1 S1.1.length y1 d1 (nI 0) (bl_b b1), bl_W q ac (am 0) (ag 0) 0 (pz_fact n) f2 w2 e2 S2.1.length y2 d2 (nI 1) (bl_b b2), gq_W q ag (am 0) (pz_fact n) (2 ^ b) (32 - b) rl st2 sl2 G2.length, wz_rows 12 rl (fun i9 => .inl (q.1, pz_fact n, .inl (L2 i9))), mv_W q am n k rt fo, wz_rows 12 rt (fun i9 => .inl (q.1, 8, .inl (M i9)))]) [3] [0, 1, 2, 4, 5, 6, 7] rfl (by decide) rfl rfl hP hD
      refine wz_callv (va_runV (As := [.int (nI j), .int (nI 1)]) (rest := []) ⟨hx, hb, hml, hown, hts⟩ (c_B_begin l D q ak (am 0) (ag 0) 6 (pz_fact n) fk wk rk z3 y3 d3 m3 c3 j (nI 1) (by omega) (by omega) hw3 _) (cwV 2 hts (wz_goodV kw_319 kw_320 kw_321 kw_36 kw_322) rfl rfl rfl (by decide +kernel) ⟨Nat.le_of_ble_eq_true rfl, Nat.le_of_ble_eq_true rfl⟩) (wz_preV (gi := 0) (k := 0) hN hK hQ wz_L_ok rfl rfl rfl) rfl rfl hl.1 rfl (lv_room (Nat.le_of_ble_eq_true rfl)) d_S_findRow_48 ⟨Nat.le_of_ble_eq_true rfl, Nat.le_of_ble_eq_true rfl⟩) hQ hS hA (fun gx H locs hp hP hD hS => ?_)
      obtain ⟨g3, hg3, rfl⟩ := hp
      have hT0 := bl_begin (wy := wk) (re := rk) hok2.1 hG2l hj hg3
      obtain ⟨hP, hD⟩ := wz_ord (n := 8) (gs' := [se_W q as9 n (am 0) (ag 0) (ab 0) (ac 0) (ak 0) (pz_fact n) rw bg sa ro (-1) 0, bl_W q ab (am 0) (ag 0) 0 (pz_fact n) f1 w1 e1 S1.1.length y1 d1 (nI 0) (bl_b b1), bl_W q ac (am 0) (ag 0) 0 (pz_fact n) f2 w2 e2 S2.1.length y2 d2 (nI 1) (bl_b b2), bl_W q ak (am 0) (ag 0) 6 (pz_fact n) (upd g3 j (nI 0)) (vp_updL (vp_updL wk j 0) j 1) (upd rk 0 (nI j)) 1 0 0 (nI 1) (nI 0), gq_W q ag (am 0) (pz_fact n) (2 ^ b) (32 - b) rl st2 sl2 G2.length, wz_rows 12 rl (fun i9 => .inl (q.1, pz_fact n, .inl (L2 i9))), mv_W q am n k rt fo, wz_rows 12 rt (fun i9 => .inl (q.1, 8, .inl (M i9)))]) [1, 2, 3, 0, 4, 5, 6, 7] rfl (by decide) rfl hP hD
      have hP : va_P D vwCl ([se_W q as9 n (am 0) (ag 0) (ab 0) (ac 0) (ak 0) (pz_fact n) rw bg sa ro (-1) 0, bl_W q ab (am 0) (ag 0) 0 (pz_fact n) f1 w1 e1 S1.1.length y1 d1 (nI 0) (bl_b b1), bl_W q ac (am 0) (ag 0) 0 (pz_fact n) f2 w2 e2 S2.1.length y2 d2 (nI 1) (bl_b b2), bl_W q ak (am 0) (ag 0) 6 (pz_fact n) (upd g3 j (nI 0)) (vp_updL (vp_updL wk j 0) j 1) (upd rk 0 (nI j)) ((pz_S0 gl).1.length) 0 0 (nI 1) (bl_b false), gq_W q ag (am 0) (pz_fact n) (2 ^ b) (32 - b) rl st2 sl2 G2.length, wz_rows 12 rl (fun i9 => .inl (q.1, pz_fact n, .inl (L2 i9))), mv_W q am n k rt fo, wz_rows 12 rt (fun i9 => .inl (q.1, 8, .inl (M i9)))] : wz_G).flatten H := hP
      have hD : va_D A ([se_W q as9 n (am 0) (ag 0) (ab 0) (ac 0) (ak 0) (pz_fact n) rw bg sa ro (-1) 0, bl_W q ab (am 0) (ag 0) 0 (pz_fact n) f1 w1 e1 S1.1.length y1 d1 (nI 0) (bl_b b1), bl_W q ac (am 0) (ag 0) 0 (pz_fact n) f2 w2 e2 S2.1.length y2 d2 (nI 1) (bl_b b2), bl_W q ak (am 0) (ag 0) 6 (pz_fact n) (upd g3 j (nI 0)) (vp_updL (vp_updL wk j 0) j 1) (upd rk 0 (nI j)) ((pz_S0 gl).1.length) 0 0 (nI 1) (bl_b false), gq_W q ag (am 0) (pz_fact n) (2 ^ b) (32 - b) rl st2 sl2 G2.length, wz_rows 12 rl (fun i9 => .inl (q.1, pz_fact n, .inl (L2 i9))), mv_W q am n k rt fo, wz_rows 12 rt (fun i9 => .inl (q.1, 8, .inl (M i9)))] : wz_G).flatten := hD
      refine lv_aload_n hx hb d_S_findRow_51 rfl (lv_at hl 1 rfl) ?_
      refine lv_aload_n hx hb d_S_findRow_52 rfl (lv_at hl 1 rfl) ?_
      refine lv_aload hx hb d_S_findRow_53 (lv_at hl 0 rfl) ?_
      refine lv_iload_n hx hb d_S_findRow_55 rfl (lv_at hl 3 rfl) ?_
      have hQ := wz_split (n := 8) (gc := [se_W q as9 n (am 0) (ag 0) (ab 0) (ac 0) (ak 0) (pz_fact n) rw bg sa ro (-1) 0, bl_W q ac (am 0) (ag 0) 0 (pz_fact n) f2 w2 e2 S2.1.length y2 d2 (nI 1) (bl_b b2), bl_W q ak (am 0) (ag 0) 6 (pz_fact n) (upd g3 j (nI 0)) (vp_updL (vp_updL wk j 0) j 1) (upd rk 0 (nI j)) ((pz_S0 gl).1.length) 0 0 (nI 1) (bl_b false), gq_W q ag (am 0) (pz_fact n) (2 ^ b) (32 - b) rl st2 sl2 G2.length, wz_rows 12 rl (fun i9 => .inl (q.1, pz_fact n, .inl (L2 i9))), mv_W q am n k rt fo, wz_rows 12 rt (fun i9 => .inl (q.1, 8, .inl (M i9)))]) (gr := [bl_W q ab (am 0) (ag 0) 0 (pz_fact n) f1 w1 e1 S1.1.length y1 d1 (nI 0) (bl_b b1)]) [0, 2, 3, 4, 5, 6, 7] [1] rfl (by decide) rfl rfl hP hD
      refine wz_calli (va_runV (As := [.ref (ac 0), .int (nI ms9)]) (rest := [.ref (as9 0)]) ⟨hx, hb, hml, hown, hts⟩ (c_S_meet l D q as9 ac ak ag am n b k rl rt fo M sg tu od sa (ab 0) (ac 0) rw bg sa ro (-1) 0 G2 st2 sl2 L2 S2 f2 w2 e2 y2 d2 (nI 1) (bl_b b2) (pz_S0 gl) (upd g3 j (nI 0)) (vp_updL (vp_updL wk j 0) j 1) (upd rk 0 (nI j)) 0 0 (bl_b false) sa gl ms9 b2 false hn hb0 hb30 hM hk hmv hok2 hS2a hT0 hrv hms hba2 rfl hdy2 rfl rfl rfl rfl _) (cwV 2 hts (wz_goodV kw_339 kw_341 kw_7 kw_34 kw_342) rfl rfl rfl (by decide +kernel) ⟨Nat.le_of_ble_eq_true rfl, Nat.le_of_ble_eq_true rfl⟩) (wz_preV (gi := 0) (k := 0) hN hK hQ wz_L_ok rfl rfl rfl) rfl rfl hl.1 rfl (lv_room (Nat.le_of_ble_eq_true rfl)) d_S_findRow_56 ⟨Nat.le_of_ble_eq_true rfl, Nat.le_of_ble_eq_true rfl⟩) hQ hS hA (fun v_56 gx H locs hp hP hD hS => ?_)
      obtain ⟨G3, st3, sl3, L3, Sx, fx, wx, ex, yx, dx, bx, Tx, fkx, wkx, rkx, lkx, dkx, ccx, rfl, ⟨Nb, hNb⟩, hok3, hSx, hTx, hbx, hbTx, hdyx, hdkx, hres⟩ := hp
      have hG3l := gq_len hok3
      have hO3 := bl_more hS1a ⟨Nb, hNb⟩ hok3.1 hG3l
      obtain ⟨hP, hD⟩ := wz_ord (n := 8) (gs' := [se_W q as9 n (am 0) (ag 0) (ab 0) (ac 0) (ak 0) (pz_fact n) rw bg sa ro (-1) 0, bl_W q ab (am 0) (ag 0) 0 (pz_fact n) f1 w1 e1 S1.1.length y1 d1 (nI 0) (bl_b b1), bl_W q ac (am 0) (ag 0) 0 (pz_fact n) fx wx ex Sx.1.length yx dx (nI 1) (bl_b bx), bl_W q ak (am 0) (ag 0) 6 (pz_fact n) fkx wkx rkx Tx.1.length lkx dkx (nI 1) (bl_b ccx), gq_W q ag (am 0) (pz_fact n) (2 ^ b) (32 - b) rl st3 sl3 G3.length, wz_rows 12 rl (fun i9 => .inl (q.1, pz_fact n, .inl (L3 i9))), mv_W q am n k rt fo, wz_rows 12 rt (fun i9 => .inl (q.1, 8, .inl (M i9)))]) [0, 7, 1, 2, 3, 4, 5, 6] rfl (by decide) rfl hP hD
      rcases hres with ⟨rfl, hnone⟩ | ⟨len, i9, rfl, hdist, hlm, hl9, hi9⟩
      · skip
        refine wz_put (gs' := [se_W q as9 n (am 0) (ag 0) (ab 0) (ac 0) (ak 0) (pz_fact n) rw bg sa ro (-1) 0, bl_W q ab (am 0) (ag 0) 0 (pz_fact n) f1 w1 e1 S1.1.length y1 d1 (nI 0) (bl_b b1), bl_W q ac (am 0) (ag 0) 0 (pz_fact n) fx wx ex Sx.1.length yx dx (nI 1) (bl_b bx), bl_W q ak (am 0) (ag 0) 6 (pz_fact n) fkx wkx rkx Tx.1.length lkx dkx (nI 1) (bl_b ccx), gq_W q ag (am 0) (pz_fact n) (2 ^ b) (32 - b) rl st3 sl3 G3.length, wz_rows 12 rl (fun i9 => .inl (q.1, pz_fact n, .inl (L3 i9))), mv_W q am n k rt fo, wz_rows 12 rt (fun i9 => .inl (q.1, 8, .inl (M i9)))]) (v := .int (-1)) (T := T_S) (N := 12) hx hb hts i_S t_S t_S_ok n_S hown hK hP hD hS 0 0 rfl rfl rfl 10 (by decide) (hts _ kw_273) rfl rfl (ty := t_S 10) (by decide +kernel) rfl rfl (Nat.le_of_ble_eq_true rfl) d_S_findRow_59 rfl (fun H locs hP hD hS => ?_)
        refine lv_aload_n hx hb d_S_findRow_62 rfl (lv_at hl 1 rfl) ?_
        refine wz_get (v := .int (-1)) (T := T_S) (N := 12) hx hb hts i_S hown hK hP 0 0 rfl rfl rfl 10 (by decide) (hts _ kw_273) rfl rfl d_S_findRow_63 ?_
        refine lv_iconst (v := (-1)) hx hb d_S_findRow_66 (by decide) ?_
        refine lv_icmp_eq (tgt := 90) hx hb d_S_findRow_67 (by decide) (fun hc2 => ?_) (fun hc2 => ?_)
        · skip
          refine lv_aload_n hx hb d_S_findRow_90 rfl (lv_at hl 1 rfl) ?_
          refine wz_get (v := .int (-1)) (T := T_S) (N := 12) hx hb hts i_S hown hK hP 0 0 rfl rfl rfl 10 (by decide) (hts _ kw_273) rfl rfl d_S_findRow_91 ?_
          exact wz_iret hx hb hr hlocks hK hP hD hS d_S_findRow_94 ⟨G3, st3, sl3, L3, S1, f1, w1, e1, y1, d1, b1, Sx, fx, wx, ex, yx, dx, bx, fkx, wkx, rkx, Tx.1.length, lkx, dkx, nI 1, bl_b ccx, rw, (-1), 0, rfl, ⟨Na ++ Nb, by rw [hNb, hNa, List.append_assoc]⟩, hok3, ⟨hO3, hba1, hdy1⟩, ⟨hSx, hbx, hdyx⟩, bl_ok_raw hTx hG3l hok3.1, Or.inl ⟨rfl, rfl, rfl, hnone⟩⟩
        · skip
          exact absurd rfl hc2
      · skip
        have hlf := pz_dist_len harr (pz_arr_self hsa) hdist
        refine wz_put (gs' := [se_W q as9 n (am 0) (ag 0) (ab 0) (ac 0) (ak 0) (pz_fact n) rw bg sa ro (nI len) 0, bl_W q ab (am 0) (ag 0) 0 (pz_fact n) f1 w1 e1 S1.1.length y1 d1 (nI 0) (bl_b b1), bl_W q ac (am 0) (ag 0) 0 (pz_fact n) fx wx ex Sx.1.length yx dx (nI 1) (bl_b bx), bl_W q ak (am 0) (ag 0) 6 (pz_fact n) fkx wkx rkx Tx.1.length lkx dkx (nI 1) (bl_b ccx), gq_W q ag (am 0) (pz_fact n) (2 ^ b) (32 - b) rl st3 sl3 G3.length, wz_rows 12 rl (fun i9 => .inl (q.1, pz_fact n, .inl (L3 i9))), mv_W q am n k rt fo, wz_rows 12 rt (fun i9 => .inl (q.1, 8, .inl (M i9)))]) (v := .int (nI len)) (T := T_S) (N := 12) hx hb hts i_S t_S t_S_ok n_S hown hK hP hD hS 0 0 rfl rfl rfl 10 (by decide) (hts _ kw_273) rfl rfl (ty := t_S 10) (by decide +kernel) rfl rfl (Nat.le_of_ble_eq_true rfl) d_S_findRow_59 rfl (fun H locs hP hD hS => ?_)
        refine lv_aload_n hx hb d_S_findRow_62 rfl (lv_at hl 1 rfl) ?_
        refine wz_get (v := .int (nI len)) (T := T_S) (N := 12) hx hb hts i_S hown hK hP 0 0 rfl rfl rfl 10 (by decide) (hts _ kw_273) rfl rfl d_S_findRow_63 ?_
        refine lv_iconst (v := (-1)) hx hb d_S_findRow_66 (by decide) ?_
        refine lv_icmp_eq (tgt := 90) hx hb d_S_findRow_67 (by decide) (fun hc2 => ?_) (fun hc2 => ?_)
        · skip
          exact absurd hc2 (fun q => by have h9 : ¬ (nI len < 0) := nI_pos (by omega); rw [q] at h9; exact absurd (by decide) h9)
        · skip
          refine lv_aload_n hx hb d_S_findRow_70 rfl (lv_at hl 1 rfl) ?_
          refine lv_aload_n hx hb d_S_findRow_71 rfl (lv_at hl 1 rfl) ?_
          refine lv_aload hx hb d_S_findRow_72 (lv_at hl 0 rfl) ?_
          have hQ := wz_split (n := 8) (gc := [se_W q as9 n (am 0) (ag 0) (ab 0) (ac 0) (ak 0) (pz_fact n) rw bg sa ro (nI len) 0, bl_W q ac (am 0) (ag 0) 0 (pz_fact n) fx wx ex Sx.1.length yx dx (nI 1) (bl_b bx), bl_W q ak (am 0) (ag 0) 6 (pz_fact n) fkx wkx rkx Tx.1.length lkx dkx (nI 1) (bl_b ccx), gq_W q ag (am 0) (pz_fact n) (2 ^ b) (32 - b) rl st3 sl3 G3.length, wz_rows 12 rl (fun i9 => .inl (q.1, pz_fact n, .inl (L3 i9))), mv_W q am n k rt fo, wz_rows 12 rt (fun i9 => .inl (q.1, 8, .inl (M i9)))]) (gr := [bl_W q ab (am 0) (ag 0) 0 (pz_fact n) f1 w1 e1 S1.1.length y1 d1 (nI 0) (bl_b b1)]) [0, 2, 3, 4, 5, 6, 7] [1] rfl (by decide) rfl rfl hP hD
          refine wz_calll (va_runV (As := [.ref (ac 0)]) (rest := [.ref (as9 0)]) ⟨hx, hb, hml, hown, hts⟩ (c_S_waysThroughMeeting l D q as9 ac ak ag am n b k rl rt fo M sg tu od sa (ab 0) (ac 0) rw bg sa ro (nI len) 0 G3 st3 sl3 L3 Sx fx wx ex yx dx (nI 1) (bl_b bx) Tx fkx wkx rkx lkx dkx (bl_b ccx) sa gl len i9 bx ccx hn hb0 hb30 hM hk hmv hok3 hSx hTx hrv hbx hbTx hdyx hdkx rfl hl9 hi9 hdist _) (cwV 1 hts (wz_goodV kw_369 kw_371 kw_9 kw_34 kw_372) rfl rfl rfl (by decide +kernel) ⟨Nat.le_of_ble_eq_true rfl, Nat.le_of_ble_eq_true rfl⟩) (wz_preV (gi := 0) (k := 0) hN hK hQ wz_L_ok rfl rfl rfl) rfl rfl hl.1 rfl (lv_room (Nat.le_of_ble_eq_true rfl)) d_S_findRow_74 ⟨Nat.le_of_ble_eq_true rfl, Nat.le_of_ble_eq_true rfl⟩) hQ hS hA (fun v_74 gx H locs hp hP hD hS => ?_)
          obtain ⟨rfl, rfl⟩ := hp
          obtain ⟨hP, hD⟩ := wz_ord (n := 8) (gs' := [se_W q as9 n (am 0) (ag 0) (ab 0) (ac 0) (ak 0) (pz_fact n) rw bg sa ro (nI len) 0, bl_W q ab (am 0) (ag 0) 0 (pz_fact n) f1 w1 e1 S1.1.length y1 d1 (nI 0) (bl_b b1), bl_W q ac (am 0) (ag 0) 0 (pz_fact n) fx wx ex Sx.1.length yx dx (nI 1) (bl_b bx), bl_W q ak (am 0) (ag 0) 6 (pz_fact n) fkx wkx rkx Tx.1.length lkx dkx (nI 1) (bl_b ccx), gq_W q ag (am 0) (pz_fact n) (2 ^ b) (32 - b) rl st3 sl3 G3.length, wz_rows 12 rl (fun i9 => .inl (q.1, pz_fact n, .inl (L3 i9))), mv_W q am n k rt fo, wz_rows 12 rt (fun i9 => .inl (q.1, 8, .inl (M i9)))]) [0, 7, 1, 2, 3, 4, 5, 6] rfl (by decide) rfl hP hD
          refine wz_put (gs' := [se_W q as9 n (am 0) (ag 0) (ab 0) (ac 0) (ak 0) (pz_fact n) rw bg sa ro (nI len) (lN (pz_cnt gl (pz_ends (bl_s n k 0 sg tu od (nI 1)) sa len))), bl_W q ab (am 0) (ag 0) 0 (pz_fact n) f1 w1 e1 S1.1.length y1 d1 (nI 0) (bl_b b1), bl_W q ac (am 0) (ag 0) 0 (pz_fact n) fx wx ex Sx.1.length yx dx (nI 1) (bl_b bx), bl_W q ak (am 0) (ag 0) 6 (pz_fact n) fkx wkx rkx Tx.1.length lkx dkx (nI 1) (bl_b ccx), gq_W q ag (am 0) (pz_fact n) (2 ^ b) (32 - b) rl st3 sl3 G3.length, wz_rows 12 rl (fun i9 => .inl (q.1, pz_fact n, .inl (L3 i9))), mv_W q am n k rt fo, wz_rows 12 rt (fun i9 => .inl (q.1, 8, .inl (M i9)))]) (v := .long (lN (pz_cnt gl (pz_ends (bl_s n k 0 sg tu od (nI 1)) sa len)))) (T := T_S) (N := 12) hx hb hts i_S t_S t_S_ok n_S hown hK hP hD hS 0 0 rfl rfl rfl 11 (by decide) (hts _ kw_275) rfl rfl (ty := t_S 11) (by decide +kernel) rfl rfl (Nat.le_of_ble_eq_true rfl) d_S_findRow_77 rfl (fun H locs hP hD hS => ?_)
          refine lv_aload_n hx hb d_S_findRow_80 rfl (lv_at hl 1 rfl) ?_
          refine lv_aload hx hb d_S_findRow_81 (lv_at hl 0 rfl) ?_
          have hQ := wz_split (n := 8) (gc := [se_W q as9 n (am 0) (ag 0) (ab 0) (ac 0) (ak 0) (pz_fact n) rw bg sa ro (nI len) (lN (pz_cnt gl (pz_ends (bl_s n k 0 sg tu od (nI 1)) sa len))), bl_W q ac (am 0) (ag 0) 0 (pz_fact n) fx wx ex Sx.1.length yx dx (nI 1) (bl_b bx), bl_W q ak (am 0) (ag 0) 6 (pz_fact n) fkx wkx rkx Tx.1.length lkx dkx (nI 1) (bl_b ccx), gq_W q ag (am 0) (pz_fact n) (2 ^ b) (32 - b) rl st3 sl3 G3.length, wz_rows 12 rl (fun i9 => .inl (q.1, pz_fact n, .inl (L3 i9))), mv_W q am n k rt fo, wz_rows 12 rt (fun i9 => .inl (q.1, 8, .inl (M i9)))]) (gr := [bl_W q ab (am 0) (ag 0) 0 (pz_fact n) f1 w1 e1 S1.1.length y1 d1 (nI 0) (bl_b b1)]) [0, 2, 3, 4, 5, 6, 7] [1] rfl (by decide) rfl rfl hP hD
          refine wz_callv (va_runV (As := [.ref (ac 0)]) (rest := []) ⟨hx, hb, hml, hown, hts⟩ (c_S_leadBackToStart l D q as9 ac ak ag am n b k rl rt fo M sg tu od sa (ab 0) (ac 0) rw bg sa ro (nI len) (lN (pz_cnt gl (pz_ends (bl_s n k 0 sg tu od (nI 1)) sa len))) G3 st3 sl3 L3 Sx fx wx ex yx dx (nI 1) (bl_b bx) Tx fkx wkx rkx lkx dkx (bl_b ccx) sa gl len i9 bx ccx hn hb0 hb30 hM hk hmv hok3 hSx hTx hrv hbx hdyx hdist (fun c9 e9 h9 => by have := pz_ball_le hbTx h9; omega) (by omega) hbTx rfl hl9 hi9 _) (cwV 1 hts (wz_goodV kw_373 kw_375 kw_10 kw_34 kw_376) rfl rfl rfl (by decide +kernel) ⟨Nat.le_of_ble_eq_true rfl, Nat.le_of_ble_eq_true rfl⟩) (wz_preV (gi := 0) (k := 0) hN hK hQ wz_L_ok rfl rfl rfl) rfl rfl hl.1 rfl (lv_room (Nat.le_of_ble_eq_true rfl)) d_S_findRow_83 ⟨Nat.le_of_ble_eq_true rfl, Nat.le_of_ble_eq_true rfl⟩) hQ hS hA (fun gx H locs hp hP hD hS => ?_)
          obtain ⟨G4, st4, sl4, L4, Ty, fky, wky, rky, rfl, ⟨Nc, hNc⟩, hok4, ⟨hSy, hTy, -, -, hley⟩, hTe, hTa⟩ := hp
          have hG4l := gq_len hok4
          have hO4 := bl_more hO3 ⟨Nc, hNc⟩ hok4.1 hG4l
          have hro4 : G4[ro]? = some sa := by rw [hNc, hNb, hNa, List.append_assoc, List.append_assoc, List.getElem?_append_left hrl]; exact hro
          obtain ⟨hP, hD⟩ := wz_ord (n := 8) (gs' := [se_W q as9 n (am 0) (ag 0) (ab 0) (ac 0) (ak 0) (pz_fact n) rw bg sa ro (nI len) (lN (pz_cnt gl (pz_ends (bl_s n k 0 sg tu od (nI 1)) sa len))), bl_W q ab (am 0) (ag 0) 0 (pz_fact n) f1 w1 e1 S1.1.length y1 d1 (nI 0) (bl_b b1), bl_W q ac (am 0) (ag 0) 0 (pz_fact n) fx wx ex Sx.1.length yx dx (nI 1) (bl_b bx), bl_W q ak (am 0) (ag 0) 6 (pz_fact n) fky wky rky Ty.1.length lkx dkx (nI 1) (bl_b ccx), gq_W q ag (am 0) (pz_fact n) (2 ^ b) (32 - b) rl st4 sl4 G4.length, wz_rows 12 rl (fun i9 => .inl (q.1, pz_fact n, .inl (L4 i9))), mv_W q am n k rt fo, wz_rows 12 rt (fun i9 => .inl (q.1, 8, .inl (M i9)))]) [0, 7, 1, 2, 3, 4, 5, 6] rfl (by decide) rfl hP hD
          refine lv_aload_n hx hb d_S_findRow_86 rfl (lv_at hl 1 rfl) ?_
          have hQ := wz_split (n := 8) (gc := [se_W q as9 n (am 0) (ag 0) (ab 0) (ac 0) (ak 0) (pz_fact n) rw bg sa ro (nI len) (lN (pz_cnt gl (pz_ends (bl_s n k 0 sg tu od (nI 1)) sa len))), bl_W q ak (am 0) (ag 0) 6 (pz_fact n) fky wky rky Ty.1.length lkx dkx (nI 1) (bl_b ccx), gq_W q ag (am 0) (pz_fact n) (2 ^ b) (32 - b) rl st4 sl4 G4.length, wz_rows 12 rl (fun i9 => .inl (q.1, pz_fact n, .inl (L4 i9))), mv_W q am n k rt fo, wz_rows 12 rt (fun i9 => .inl (q.1, 8, .inl (M i9)))]) (gr := [bl_W q ab (am 0) (ag 0) 0 (pz_fact n) f1 w1 e1 S1.1.length y1 d1 (nI 0) (bl_b b1), bl_W q ac (am 0) (ag 0) 0 (pz_fact n) fx wx ex Sx.1.length yx dx (nI 1) (bl_b bx)]) [0, 3, 4, 5, 6, 7] [1, 2] rfl (by decide) rfl rfl hP hD
          refine wz_callv (va_runV (As := []) (rest := []) ⟨hx, hb, hml, hown, hts⟩ (c_S_walkLeastRow l D q as9 ak ag am n b k rl rt fo M sg tu od sa (ab 0) (ac 0) rw bg sa ro (nI len) (lN (pz_cnt gl (pz_ends (bl_s n k 0 sg tu od (nI 1)) sa len))) G4 st4 sl4 L4 Ty fky wky rky lkx dkx (nI 1) (bl_b ccx) sa gl len hn hb0 hb30 hM hk hmv hok4 hTy hrv hro4 rfl hlf hdist (fun y9 e9 h9 => by have := hley y9 e9 h9; omega) hTe hTa _) (cwV 0 hts (wz_goodV kw_384 kw_386 kw_12 kw_34 kw_387) rfl rfl rfl (by decide +kernel) ⟨Nat.le_of_ble_eq_true rfl, Nat.le_of_ble_eq_true rfl⟩) (wz_preV (gi := 0) (k := 0) hN hK hQ wz_L_ok rfl rfl rfl) rfl rfl hl.1 rfl (lv_room (Nat.le_of_ble_eq_true rfl)) d_S_findRow_87 ⟨Nat.le_of_ble_eq_true rfl, Nat.le_of_ble_eq_true rfl⟩) hQ hS hA (fun gx H locs hp hP hD hS => ?_)
          obtain ⟨G5, st5, sl5, L5, rw5, mv9, tm9, X9, rfl, ⟨⟨Nd, hNd⟩, hok5⟩, hT5, hrow, hrw⟩ := hp
          have hG5l := gq_len hok5
          have hO5 := bl_more hO4 ⟨Nd, hNd⟩ hok5.1 hG5l
          have hS5 := bl_more hSy ⟨Nd, hNd⟩ hok5.1 hG5l
          obtain ⟨hP, hD⟩ := wz_ord (n := 8) (gs' := [se_W q as9 n (am 0) (ag 0) (ab 0) (ac 0) (ak 0) (pz_fact n) rw5 bg sa ro (nI len) (lN (pz_cnt gl (pz_ends (bl_s n k 0 sg tu od (nI 1)) sa len))), bl_W q ab (am 0) (ag 0) 0 (pz_fact n) f1 w1 e1 S1.1.length y1 d1 (nI 0) (bl_b b1), bl_W q ac (am 0) (ag 0) 0 (pz_fact n) fx wx ex Sx.1.length yx dx (nI 1) (bl_b bx), bl_W q ak (am 0) (ag 0) 6 (pz_fact n) fky wky rky Ty.1.length lkx dkx (nI 1) (bl_b ccx), gq_W q ag (am 0) (pz_fact n) (2 ^ b) (32 - b) rl st5 sl5 G5.length, wz_rows 12 rl (fun i9 => .inl (q.1, pz_fact n, .inl (L5 i9))), mv_W q am n k rt fo, wz_rows 12 rt (fun i9 => .inl (q.1, 8, .inl (M i9)))]) [0, 6, 7, 1, 2, 3, 4, 5] rfl (by decide) rfl hP hD
          refine lv_aload_n hx hb d_S_findRow_90 rfl (lv_at hl 1 rfl) ?_
          refine wz_get (v := .int (nI len)) (T := T_S) (N := 12) hx hb hts i_S hown hK hP 0 0 rfl rfl rfl 10 (by decide) (hts _ kw_273) rfl rfl d_S_findRow_91 ?_
          exact wz_iret hx hb hr hlocks hK hP hD hS d_S_findRow_94 ⟨G5, st5, sl5, L5, S1, f1, w1, e1, y1, d1, b1, Sx, fx, wx, ex, yx, dx, bx, fky, wky, rky, Ty.1.length, lkx, dkx, nI 1, bl_b ccx, rw5, nI len, lN (pz_cnt gl (pz_ends (bl_s n k 0 sg tu od (nI 1)) sa len)), rfl, ⟨Na ++ (Nb ++ (Nc ++ Nd)), by rw [hNd, hNc, hNb, hNa, List.append_assoc, List.append_assoc, List.append_assoc]⟩, hok5, ⟨hO5, hba1, hdy1⟩, ⟨hS5, hbx, hdyx⟩, bl_ok_raw hT5 hG5l hok5.1, Or.inr ⟨len, mv9, tm9, X9, rfl, rfl, hdist, hlm, hlf, rfl, hrow, hrw⟩⟩
    · skip
      refine lv_iconst (v := (-1)) hx hb d_S_findRow_26 (by decide) ?_
      exact wz_iret hx hb hr hlocks hK hP hD hS d_S_findRow_27 ⟨G, st, sl, L, S1, f1, w1, e1, y1, d1, b1, S2, f2, w2, e2, y2, d2, b2, fk, wk, rk, z3, y3, d3, m3, c3, rw, -1, 0, rfl, ⟨[], by simp⟩, hok, ⟨hS1, hba1, hdy1⟩, ⟨hS2, hba2, hdy2⟩, hw3, Or.inl ⟨rfl, rfl, rfl, fun K9 hK9 => absurd (congrArg nI (pz_arr_tal (pz_ends_arr harr (pz_arr_self hsa) K9 gl hK9.1))) hc⟩⟩
end
section
/-! MODULE Model: the reference -/
def zo_W (q : wz_Q) (a : Nat → Nat) (th : Int32) (n : Nat) (k : Nat) (kn : Int32) (bk : Int32) (sz : Nat) (fd : Int32) (ln : Nat) (fm : Int32) (fw : Int64) : va_W := [(a 0, .inr (5, [.int th, .int (nI n), .int (nI k), .ref (a 1), .ref (a 2), .ref (a 3), .ref (a 4), .int kn, .int bk, .int (nI sz), .ref (a 5), .ref (a 6), .ref (a 7), .ref (a 8), .int fd, .int (nI ln), .int fm, .long fw, .ref (a 9), .ref (a 10), .ref (a 11), .ref (a 12)]))]
def zt_W (q : wz_Q) (a : Nat → Nat) (to : Nat → Int32) (fo : Nat → Int32) : va_W := [(a 1, .inl (q.1, 48, .inl to)), (a 2, .inl (q.1, 6, .inl fo))]
def zs_W (q : wz_Q) (a : Nat → Nat) (sb : Nat → Int32) (gb : Nat → Int32) : va_W := [(a 3, .inl (q.1, 8, .inl sb)), (a 4, .inl (q.1, 8, .inl gb))]
def zb_W (q : wz_Q) (a : Nat → Nat) (st : Nat → Int32) (sp : Nat → Int32) (wy : Nat → Int64) (se : Nat → Int32) : va_W := [(a 5, .inl (q.1, 40320, .inl st)), (a 6, .inl (q.1, 40320, .inl sp)), (a 7, .inl (q.2.1, 40320, .inr (.inl wy))), (a 8, .inl (q.1, 65536, .inl se))]
def zf_W (q : wz_Q) (a : Nat → Nat) (ms : Nat → Int32) (ts : Nat → Int32) : va_W := [(a 9, .inl (q.1, 40320, .inl ms)), (a 10, .inl (q.1, 40320, .inl ts))]
theorem d_Z_change_0 : decode b_Z_change 0 = .ok (.aload_n 0, 1) := by decide +kernel
theorem d_Z_change_1 : decode b_Z_change 1 = .ok (.iconst (-1), 1) := by decide +kernel
theorem d_Z_change_2 : decode b_Z_change 2 = .ok (.putfield 22, 3) := by decide +kernel
theorem d_Z_change_5 : decode b_Z_change 5 = .ok (.aload_n 0, 1) := by decide +kernel
theorem d_Z_change_6 : decode b_Z_change 6 = .ok (.iconst 0, 1) := by decide +kernel
theorem d_Z_change_7 : decode b_Z_change 7 = .ok (.putfield 68, 3) := by decide +kernel
theorem d_Z_change_10 : decode b_Z_change 10 = .ok (.return_, 1) := by decide +kernel
theorem d_Z_isMove_0 : decode b_Z_isMove 0 = .ok (.iload_n 1, 1) := by decide +kernel
theorem d_Z_isMove_1 : decode b_Z_isMove 1 = .ok (.ifCond .lt 15, 3) := by decide +kernel
theorem d_Z_isMove_4 : decode b_Z_isMove 4 = .ok (.iload_n 1, 1) := by decide +kernel
theorem d_Z_isMove_5 : decode b_Z_isMove 5 = .ok (.aload_n 0, 1) := by decide +kernel
theorem d_Z_isMove_6 : decode b_Z_isMove 6 = .ok (.getfield 62, 3) := by decide +kernel
theorem d_Z_isMove_9 : decode b_Z_isMove 9 = .ok (.if_icmp .ge 7, 3) := by decide +kernel
theorem d_Z_isMove_12 : decode b_Z_isMove 12 = .ok (.iconst 1, 1) := by decide +kernel
theorem d_Z_isMove_13 : decode b_Z_isMove 13 = .ok (.goto 4, 3) := by decide +kernel
theorem d_Z_isMove_16 : decode b_Z_isMove 16 = .ok (.iconst 0, 1) := by decide +kernel
theorem d_Z_isMove_17 : decode b_Z_isMove 17 = .ok (.ireturn, 1) := by decide +kernel
theorem d_Z_isPlace_0 : decode b_Z_isPlace 0 = .ok (.iload_n 1, 1) := by decide +kernel
theorem d_Z_isPlace_1 : decode b_Z_isPlace 1 = .ok (.ifCond .lt 15, 3) := by decide +kernel
theorem d_Z_isPlace_4 : decode b_Z_isPlace 4 = .ok (.iload_n 1, 1) := by decide +kernel
theorem d_Z_isPlace_5 : decode b_Z_isPlace 5 = .ok (.aload_n 0, 1) := by decide +kernel
theorem d_Z_isPlace_6 : decode b_Z_isPlace 6 = .ok (.getfield 53, 3) := by decide +kernel
theorem d_Z_isPlace_9 : decode b_Z_isPlace 9 = .ok (.if_icmp .ge 7, 3) := by decide +kernel
theorem d_Z_isPlace_12 : decode b_Z_isPlace 12 = .ok (.iconst 1, 1) := by decide +kernel
theorem d_Z_isPlace_13 : decode b_Z_isPlace 13 = .ok (.goto 4, 3) := by decide +kernel
theorem d_Z_isPlace_16 : decode b_Z_isPlace 16 = .ok (.iconst 0, 1) := by decide +kernel
theorem d_Z_isPlace_17 : decode b_Z_isPlace 17 = .ok (.ireturn, 1) := by decide +kernel
theorem d_Z_isMeasure_0 : decode b_Z_isMeasure 0 = .ok (.iload_n 0, 1) := by decide +kernel
theorem d_Z_isMeasure_1 : decode b_Z_isMeasure 1 = .ok (.ifCond .eq 8, 3) := by decide +kernel
theorem d_Z_isMeasure_4 : decode b_Z_isMeasure 4 = .ok (.iload_n 0, 1) := by decide +kernel
theorem d_Z_isMeasure_5 : decode b_Z_isMeasure 5 = .ok (.iconst 1, 1) := by decide +kernel
theorem d_Z_isMeasure_6 : decode b_Z_isMeasure 6 = .ok (.if_icmp .ne 7, 3) := by decide +kernel
theorem d_Z_isMeasure_9 : decode b_Z_isMeasure 9 = .ok (.iconst 1, 1) := by decide +kernel
theorem d_Z_isMeasure_10 : decode b_Z_isMeasure 10 = .ok (.goto 4, 3) := by decide +kernel
theorem d_Z_isMeasure_13 : decode b_Z_isMeasure 13 = .ok (.iconst 0, 1) := by decide +kernel
theorem d_Z_isMeasure_14 : decode b_Z_isMeasure 14 = .ok (.ireturn, 1) := by decide +kernel
theorem d_Z_most_0 : decode b_Z_most 0 = .ok (.iload_n 2, 1) := by decide +kernel
theorem d_Z_most_1 : decode b_Z_most 1 = .ok (.ifCond .ne 7, 3) := by decide +kernel
theorem d_Z_most_4 : decode b_Z_most 4 = .ok (.iconst 1, 1) := by decide +kernel
theorem d_Z_most_5 : decode b_Z_most 5 = .ok (.goto 11, 3) := by decide +kernel
theorem d_Z_most_8 : decode b_Z_most 8 = .ok (.aload_n 0, 1) := by decide +kernel
theorem d_Z_most_9 : decode b_Z_most 9 = .ok (.getfield 13, 3) := by decide +kernel
theorem d_Z_most_12 : decode b_Z_most 12 = .ok (.iload_n 1, 1) := by decide +kernel
theorem d_Z_most_13 : decode b_Z_most 13 = .ok (.iaload, 1) := by decide +kernel
theorem d_Z_most_14 : decode b_Z_most 14 = .ok (.iconst 1, 1) := by decide +kernel
theorem d_Z_most_15 : decode b_Z_most 15 = .ok (.isub, 1) := by decide +kernel
theorem d_Z_most_16 : decode b_Z_most 16 = .ok (.ireturn, 1) := by decide +kernel
theorem d_Z_order_0 : decode b_Z_order 0 = .ok (.aload_n 0, 1) := by decide +kernel
theorem d_Z_order_1 : decode b_Z_order 1 = .ok (.iconst 0, 1) := by decide +kernel
theorem d_Z_order_2 : decode b_Z_order 2 = .ok (.putfield 59, 3) := by decide +kernel
theorem d_Z_order_5 : decode b_Z_order 5 = .ok (.aload_n 0, 1) := by decide +kernel
theorem d_Z_order_6 : decode b_Z_order 6 = .ok (.iload_n 1, 1) := by decide +kernel
theorem d_Z_order_7 : decode b_Z_order 7 = .ok (.invokevirtual 72, 3) := by decide +kernel
theorem d_Z_order_10 : decode b_Z_order 10 = .ok (.ifCond .eq 12, 3) := by decide +kernel
theorem d_Z_order_13 : decode b_Z_order 13 = .ok (.aload_n 0, 1) := by decide +kernel
theorem d_Z_order_14 : decode b_Z_order 14 = .ok (.getfield 13, 3) := by decide +kernel
theorem d_Z_order_17 : decode b_Z_order 17 = .ok (.iload_n 1, 1) := by decide +kernel
theorem d_Z_order_18 : decode b_Z_order 18 = .ok (.iaload, 1) := by decide +kernel
theorem d_Z_order_19 : decode b_Z_order 19 = .ok (.goto 4, 3) := by decide +kernel
theorem d_Z_order_22 : decode b_Z_order 22 = .ok (.iconst 0, 1) := by decide +kernel
theorem d_Z_order_23 : decode b_Z_order 23 = .ok (.ireturn, 1) := by decide +kernel
theorem d_Z_codeOfStart_0 : decode b_Z_codeOfStart 0 = .ok (.iconst 0, 1) := by decide +kernel
theorem d_Z_codeOfStart_1 : decode b_Z_codeOfStart 1 = .ok (.istore_n 1, 1) := by decide +kernel
theorem d_Z_codeOfStart_2 : decode b_Z_codeOfStart 2 = .ok (.iconst 0, 1) := by decide +kernel
theorem d_Z_codeOfStart_3 : decode b_Z_codeOfStart 3 = .ok (.istore_n 2, 1) := by decide +kernel
theorem d_Z_codeOfStart_4 : decode b_Z_codeOfStart 4 = .ok (.iload_n 2, 1) := by decide +kernel
theorem d_Z_codeOfStart_5 : decode b_Z_codeOfStart 5 = .ok (.aload_n 0, 1) := by decide +kernel
theorem d_Z_codeOfStart_6 : decode b_Z_codeOfStart 6 = .ok (.getfield 53, 3) := by decide +kernel
theorem d_Z_codeOfStart_9 : decode b_Z_codeOfStart 9 = .ok (.if_icmp .ge 22, 3) := by decide +kernel
theorem d_Z_codeOfStart_12 : decode b_Z_codeOfStart 12 = .ok (.iload_n 1, 1) := by decide +kernel
theorem d_Z_codeOfStart_13 : decode b_Z_codeOfStart 13 = .ok (.aload_n 0, 1) := by decide +kernel
theorem d_Z_codeOfStart_14 : decode b_Z_codeOfStart 14 = .ok (.getfield 16, 3) := by decide +kernel
theorem d_Z_codeOfStart_17 : decode b_Z_codeOfStart 17 = .ok (.iload_n 2, 1) := by decide +kernel
theorem d_Z_codeOfStart_18 : decode b_Z_codeOfStart 18 = .ok (.iaload, 1) := by decide +kernel
theorem d_Z_codeOfStart_19 : decode b_Z_codeOfStart 19 = .ok (.iconst 3, 1) := by decide +kernel
theorem d_Z_codeOfStart_20 : decode b_Z_codeOfStart 20 = .ok (.iload_n 2, 1) := by decide +kernel
theorem d_Z_codeOfStart_21 : decode b_Z_codeOfStart 21 = .ok (.imul, 1) := by decide +kernel
theorem d_Z_codeOfStart_22 : decode b_Z_codeOfStart 22 = .ok (.ishl, 1) := by decide +kernel
theorem d_Z_codeOfStart_23 : decode b_Z_codeOfStart 23 = .ok (.ior, 1) := by decide +kernel
theorem d_Z_codeOfStart_24 : decode b_Z_codeOfStart 24 = .ok (.istore_n 1, 1) := by decide +kernel
theorem d_Z_codeOfStart_25 : decode b_Z_codeOfStart 25 = .ok (.iinc 2 1, 3) := by decide +kernel
theorem d_Z_codeOfStart_28 : decode b_Z_codeOfStart 28 = .ok (.goto (-24), 3) := by decide +kernel
theorem d_Z_codeOfStart_31 : decode b_Z_codeOfStart 31 = .ok (.iload_n 1, 1) := by decide +kernel
theorem d_Z_codeOfStart_32 : decode b_Z_codeOfStart 32 = .ok (.ireturn, 1) := by decide +kernel
theorem d_Z_codeOfGoal_0 : decode b_Z_codeOfGoal 0 = .ok (.iconst 0, 1) := by decide +kernel
theorem d_Z_codeOfGoal_1 : decode b_Z_codeOfGoal 1 = .ok (.istore_n 1, 1) := by decide +kernel
theorem d_Z_codeOfGoal_2 : decode b_Z_codeOfGoal 2 = .ok (.iconst 0, 1) := by decide +kernel
theorem d_Z_codeOfGoal_3 : decode b_Z_codeOfGoal 3 = .ok (.istore_n 2, 1) := by decide +kernel
theorem d_Z_codeOfGoal_4 : decode b_Z_codeOfGoal 4 = .ok (.iload_n 2, 1) := by decide +kernel
theorem d_Z_codeOfGoal_5 : decode b_Z_codeOfGoal 5 = .ok (.aload_n 0, 1) := by decide +kernel
theorem d_Z_codeOfGoal_6 : decode b_Z_codeOfGoal 6 = .ok (.getfield 53, 3) := by decide +kernel
theorem d_Z_codeOfGoal_9 : decode b_Z_codeOfGoal 9 = .ok (.if_icmp .ge 22, 3) := by decide +kernel
theorem d_Z_codeOfGoal_12 : decode b_Z_codeOfGoal 12 = .ok (.iload_n 1, 1) := by decide +kernel
theorem d_Z_codeOfGoal_13 : decode b_Z_codeOfGoal 13 = .ok (.aload_n 0, 1) := by decide +kernel
theorem d_Z_codeOfGoal_14 : decode b_Z_codeOfGoal 14 = .ok (.getfield 19, 3) := by decide +kernel
theorem d_Z_codeOfGoal_17 : decode b_Z_codeOfGoal 17 = .ok (.iload_n 2, 1) := by decide +kernel
theorem d_Z_codeOfGoal_18 : decode b_Z_codeOfGoal 18 = .ok (.iaload, 1) := by decide +kernel
theorem d_Z_codeOfGoal_19 : decode b_Z_codeOfGoal 19 = .ok (.iconst 3, 1) := by decide +kernel
theorem d_Z_codeOfGoal_20 : decode b_Z_codeOfGoal 20 = .ok (.iload_n 2, 1) := by decide +kernel
theorem d_Z_codeOfGoal_21 : decode b_Z_codeOfGoal 21 = .ok (.imul, 1) := by decide +kernel
theorem d_Z_codeOfGoal_22 : decode b_Z_codeOfGoal 22 = .ok (.ishl, 1) := by decide +kernel
theorem d_Z_codeOfGoal_23 : decode b_Z_codeOfGoal 23 = .ok (.ior, 1) := by decide +kernel
theorem d_Z_codeOfGoal_24 : decode b_Z_codeOfGoal 24 = .ok (.istore_n 1, 1) := by decide +kernel
theorem d_Z_codeOfGoal_25 : decode b_Z_codeOfGoal 25 = .ok (.iinc 2 1, 3) := by decide +kernel
theorem d_Z_codeOfGoal_28 : decode b_Z_codeOfGoal 28 = .ok (.goto (-24), 3) := by decide +kernel
theorem d_Z_codeOfGoal_31 : decode b_Z_codeOfGoal 31 = .ok (.iload_n 1, 1) := by decide +kernel
theorem d_Z_codeOfGoal_32 : decode b_Z_codeOfGoal 32 = .ok (.ireturn, 1) := by decide +kernel
theorem d_Z_done_0 : decode b_Z_done 0 = .ok (.iconst 0, 1) := by decide +kernel
theorem d_Z_done_1 : decode b_Z_done 1 = .ok (.istore 4, 2) := by decide +kernel
theorem d_Z_done_3 : decode b_Z_done 3 = .ok (.iconst 0, 1) := by decide +kernel
theorem d_Z_done_4 : decode b_Z_done 4 = .ok (.istore 5, 2) := by decide +kernel
theorem d_Z_done_6 : decode b_Z_done 6 = .ok (.iload 5, 2) := by decide +kernel
theorem d_Z_done_8 : decode b_Z_done 8 = .ok (.aload_n 0, 1) := by decide +kernel
theorem d_Z_done_9 : decode b_Z_done 9 = .ok (.getfield 53, 3) := by decide +kernel
theorem d_Z_done_12 : decode b_Z_done 12 = .ok (.if_icmp .ge 60, 3) := by decide +kernel
theorem d_Z_done_15 : decode b_Z_done 15 = .ok (.aload_n 0, 1) := by decide +kernel
theorem d_Z_done_16 : decode b_Z_done 16 = .ok (.getfield 7, 3) := by decide +kernel
theorem d_Z_done_19 : decode b_Z_done 19 = .ok (.bipush 8, 2) := by decide +kernel
theorem d_Z_done_21 : decode b_Z_done 21 = .ok (.iload_n 2, 1) := by decide +kernel
theorem d_Z_done_22 : decode b_Z_done 22 = .ok (.imul, 1) := by decide +kernel
theorem d_Z_done_23 : decode b_Z_done 23 = .ok (.iload 5, 2) := by decide +kernel
theorem d_Z_done_25 : decode b_Z_done 25 = .ok (.iadd, 1) := by decide +kernel
theorem d_Z_done_26 : decode b_Z_done 26 = .ok (.iaload, 1) := by decide +kernel
theorem d_Z_done_27 : decode b_Z_done 27 = .ok (.istore 6, 2) := by decide +kernel
theorem d_Z_done_29 : decode b_Z_done 29 = .ok (.iload 4, 2) := by decide +kernel
theorem d_Z_done_31 : decode b_Z_done 31 = .ok (.iload_n 1, 1) := by decide +kernel
theorem d_Z_done_32 : decode b_Z_done 32 = .ok (.iconst 3, 1) := by decide +kernel
theorem d_Z_done_33 : decode b_Z_done 33 = .ok (.iload_n 3, 1) := by decide +kernel
theorem d_Z_done_34 : decode b_Z_done 34 = .ok (.ifCond .eq 8, 3) := by decide +kernel
theorem d_Z_done_37 : decode b_Z_done 37 = .ok (.iload 6, 2) := by decide +kernel
theorem d_Z_done_39 : decode b_Z_done 39 = .ok (.goto 5, 3) := by decide +kernel
theorem d_Z_done_42 : decode b_Z_done 42 = .ok (.iload 5, 2) := by decide +kernel
theorem d_Z_done_44 : decode b_Z_done 44 = .ok (.imul, 1) := by decide +kernel
theorem d_Z_done_45 : decode b_Z_done 45 = .ok (.ishr, 1) := by decide +kernel
theorem d_Z_done_46 : decode b_Z_done 46 = .ok (.bipush 7, 2) := by decide +kernel
theorem d_Z_done_48 : decode b_Z_done 48 = .ok (.iand, 1) := by decide +kernel
theorem d_Z_done_49 : decode b_Z_done 49 = .ok (.iconst 3, 1) := by decide +kernel
theorem d_Z_done_50 : decode b_Z_done 50 = .ok (.iload_n 3, 1) := by decide +kernel
theorem d_Z_done_51 : decode b_Z_done 51 = .ok (.ifCond .eq 8, 3) := by decide +kernel
theorem d_Z_done_54 : decode b_Z_done 54 = .ok (.iload 5, 2) := by decide +kernel
theorem d_Z_done_56 : decode b_Z_done 56 = .ok (.goto 5, 3) := by decide +kernel
theorem d_Z_done_59 : decode b_Z_done 59 = .ok (.iload 6, 2) := by decide +kernel
theorem d_Z_done_61 : decode b_Z_done 61 = .ok (.imul, 1) := by decide +kernel
theorem d_Z_done_62 : decode b_Z_done 62 = .ok (.ishl, 1) := by decide +kernel
theorem d_Z_done_63 : decode b_Z_done 63 = .ok (.ior, 1) := by decide +kernel
theorem d_Z_done_64 : decode b_Z_done 64 = .ok (.istore 4, 2) := by decide +kernel
theorem d_Z_done_66 : decode b_Z_done 66 = .ok (.iinc 5 1, 3) := by decide +kernel
theorem d_Z_done_69 : decode b_Z_done 69 = .ok (.goto (-63), 3) := by decide +kernel
theorem d_Z_done_72 : decode b_Z_done 72 = .ok (.iload 4, 2) := by decide +kernel
theorem d_Z_done_74 : decode b_Z_done 74 = .ok (.ireturn, 1) := by decide +kernel
theorem d_Z_seatOf_0 : decode b_Z_seatOf 0 = .ok (.iload_n 1, 1) := by decide +kernel
theorem d_Z_seatOf_1 : decode b_Z_seatOf 1 = .ok (.ldc 83, 2) := by decide +kernel
theorem d_Z_seatOf_3 : decode b_Z_seatOf 3 = .ok (.imul, 1) := by decide +kernel
theorem d_Z_seatOf_4 : decode b_Z_seatOf 4 = .ok (.bipush 7, 2) := by decide +kernel
theorem d_Z_seatOf_6 : decode b_Z_seatOf 6 = .ok (.iushr, 1) := by decide +kernel
theorem d_Z_seatOf_7 : decode b_Z_seatOf 7 = .ok (.ldc 37, 2) := by decide +kernel
theorem d_Z_seatOf_9 : decode b_Z_seatOf 9 = .ok (.irem, 1) := by decide +kernel
theorem d_Z_seatOf_10 : decode b_Z_seatOf 10 = .ok (.istore_n 2, 1) := by decide +kernel
theorem d_Z_seatOf_11 : decode b_Z_seatOf 11 = .ok (.aload_n 0, 1) := by decide +kernel
theorem d_Z_seatOf_12 : decode b_Z_seatOf 12 = .ok (.getfield 38, 3) := by decide +kernel
theorem d_Z_seatOf_15 : decode b_Z_seatOf 15 = .ok (.iload_n 2, 1) := by decide +kernel
theorem d_Z_seatOf_16 : decode b_Z_seatOf 16 = .ok (.iaload, 1) := by decide +kernel
theorem d_Z_seatOf_17 : decode b_Z_seatOf 17 = .ok (.ifCond .eq 30, 3) := by decide +kernel
theorem d_Z_seatOf_20 : decode b_Z_seatOf 20 = .ok (.aload_n 0, 1) := by decide +kernel
theorem d_Z_seatOf_21 : decode b_Z_seatOf 21 = .ok (.getfield 27, 3) := by decide +kernel
theorem d_Z_seatOf_24 : decode b_Z_seatOf 24 = .ok (.aload_n 0, 1) := by decide +kernel
theorem d_Z_seatOf_25 : decode b_Z_seatOf 25 = .ok (.getfield 38, 3) := by decide +kernel
theorem d_Z_seatOf_28 : decode b_Z_seatOf 28 = .ok (.iload_n 2, 1) := by decide +kernel
theorem d_Z_seatOf_29 : decode b_Z_seatOf 29 = .ok (.iaload, 1) := by decide +kernel
theorem d_Z_seatOf_30 : decode b_Z_seatOf 30 = .ok (.iconst 1, 1) := by decide +kernel
theorem d_Z_seatOf_31 : decode b_Z_seatOf 31 = .ok (.isub, 1) := by decide +kernel
theorem d_Z_seatOf_32 : decode b_Z_seatOf 32 = .ok (.iaload, 1) := by decide +kernel
theorem d_Z_seatOf_33 : decode b_Z_seatOf 33 = .ok (.iload_n 1, 1) := by decide +kernel
theorem d_Z_seatOf_34 : decode b_Z_seatOf 34 = .ok (.if_icmp .eq 13, 3) := by decide +kernel
theorem d_Z_seatOf_37 : decode b_Z_seatOf 37 = .ok (.iload_n 2, 1) := by decide +kernel
theorem d_Z_seatOf_38 : decode b_Z_seatOf 38 = .ok (.iconst 1, 1) := by decide +kernel
theorem d_Z_seatOf_39 : decode b_Z_seatOf 39 = .ok (.iadd, 1) := by decide +kernel
theorem d_Z_seatOf_40 : decode b_Z_seatOf 40 = .ok (.ldc 37, 2) := by decide +kernel
theorem d_Z_seatOf_42 : decode b_Z_seatOf 42 = .ok (.irem, 1) := by decide +kernel
theorem d_Z_seatOf_43 : decode b_Z_seatOf 43 = .ok (.istore_n 2, 1) := by decide +kernel
theorem d_Z_seatOf_44 : decode b_Z_seatOf 44 = .ok (.goto (-33), 3) := by decide +kernel
theorem d_Z_seatOf_47 : decode b_Z_seatOf 47 = .ok (.iload_n 2, 1) := by decide +kernel
theorem d_Z_seatOf_48 : decode b_Z_seatOf 48 = .ok (.ireturn, 1) := by decide +kernel
theorem d_Z_numberOf_0 : decode b_Z_numberOf 0 = .ok (.aload_n 0, 1) := by decide +kernel
theorem d_Z_numberOf_1 : decode b_Z_numberOf 1 = .ok (.getfield 38, 3) := by decide +kernel
theorem d_Z_numberOf_4 : decode b_Z_numberOf 4 = .ok (.aload_n 0, 1) := by decide +kernel
theorem d_Z_numberOf_5 : decode b_Z_numberOf 5 = .ok (.iload_n 1, 1) := by decide +kernel
theorem d_Z_numberOf_6 : decode b_Z_numberOf 6 = .ok (.invokevirtual 84, 3) := by decide +kernel
theorem d_Z_numberOf_9 : decode b_Z_numberOf 9 = .ok (.iaload, 1) := by decide +kernel
theorem d_Z_numberOf_10 : decode b_Z_numberOf 10 = .ok (.iconst 1, 1) := by decide +kernel
theorem d_Z_numberOf_11 : decode b_Z_numberOf 11 = .ok (.isub, 1) := by decide +kernel
theorem d_Z_numberOf_12 : decode b_Z_numberOf 12 = .ok (.ireturn, 1) := by decide +kernel
theorem d_Z_put_0 : decode b_Z_put 0 = .ok (.aload_n 0, 1) := by decide +kernel
theorem d_Z_put_1 : decode b_Z_put 1 = .ok (.iload_n 1, 1) := by decide +kernel
theorem d_Z_put_2 : decode b_Z_put 2 = .ok (.invokevirtual 84, 3) := by decide +kernel
theorem d_Z_put_5 : decode b_Z_put 5 = .ok (.istore_n 3, 1) := by decide +kernel
theorem d_Z_put_6 : decode b_Z_put 6 = .ok (.aload_n 0, 1) := by decide +kernel
theorem d_Z_put_7 : decode b_Z_put 7 = .ok (.getfield 38, 3) := by decide +kernel
theorem d_Z_put_10 : decode b_Z_put 10 = .ok (.iload_n 3, 1) := by decide +kernel
theorem d_Z_put_11 : decode b_Z_put 11 = .ok (.iaload, 1) := by decide +kernel
theorem d_Z_put_12 : decode b_Z_put 12 = .ok (.ifCond .ne 53, 3) := by decide +kernel
theorem d_Z_put_15 : decode b_Z_put 15 = .ok (.aload_n 0, 1) := by decide +kernel
theorem d_Z_put_16 : decode b_Z_put 16 = .ok (.getfield 27, 3) := by decide +kernel
theorem d_Z_put_19 : decode b_Z_put 19 = .ok (.aload_n 0, 1) := by decide +kernel
theorem d_Z_put_20 : decode b_Z_put 20 = .ok (.getfield 87, 3) := by decide +kernel
theorem d_Z_put_23 : decode b_Z_put 23 = .ok (.iload_n 1, 1) := by decide +kernel
theorem d_Z_put_24 : decode b_Z_put 24 = .ok (.iastore, 1) := by decide +kernel
theorem d_Z_put_25 : decode b_Z_put 25 = .ok (.aload_n 0, 1) := by decide +kernel
theorem d_Z_put_26 : decode b_Z_put 26 = .ok (.getfield 30, 3) := by decide +kernel
theorem d_Z_put_29 : decode b_Z_put 29 = .ok (.aload_n 0, 1) := by decide +kernel
theorem d_Z_put_30 : decode b_Z_put 30 = .ok (.getfield 87, 3) := by decide +kernel
theorem d_Z_put_33 : decode b_Z_put 33 = .ok (.iload_n 2, 1) := by decide +kernel
theorem d_Z_put_34 : decode b_Z_put 34 = .ok (.iastore, 1) := by decide +kernel
theorem d_Z_put_35 : decode b_Z_put 35 = .ok (.aload_n 0, 1) := by decide +kernel
theorem d_Z_put_36 : decode b_Z_put 36 = .ok (.getfield 33, 3) := by decide +kernel
theorem d_Z_put_39 : decode b_Z_put 39 = .ok (.aload_n 0, 1) := by decide +kernel
theorem d_Z_put_40 : decode b_Z_put 40 = .ok (.getfield 87, 3) := by decide +kernel
theorem d_Z_put_43 : decode b_Z_put 43 = .ok (.lconst 0, 1) := by decide +kernel
theorem d_Z_put_44 : decode b_Z_put 44 = .ok (.lastore, 1) := by decide +kernel
theorem d_Z_put_45 : decode b_Z_put 45 = .ok (.aload_n 0, 1) := by decide +kernel
theorem d_Z_put_46 : decode b_Z_put 46 = .ok (.dup, 1) := by decide +kernel
theorem d_Z_put_47 : decode b_Z_put 47 = .ok (.getfield 87, 3) := by decide +kernel
theorem d_Z_put_50 : decode b_Z_put 50 = .ok (.iconst 1, 1) := by decide +kernel
theorem d_Z_put_51 : decode b_Z_put 51 = .ok (.iadd, 1) := by decide +kernel
theorem d_Z_put_52 : decode b_Z_put 52 = .ok (.putfield 87, 3) := by decide +kernel
theorem d_Z_put_55 : decode b_Z_put 55 = .ok (.aload_n 0, 1) := by decide +kernel
theorem d_Z_put_56 : decode b_Z_put 56 = .ok (.getfield 38, 3) := by decide +kernel
theorem d_Z_put_59 : decode b_Z_put 59 = .ok (.iload_n 3, 1) := by decide +kernel
theorem d_Z_put_60 : decode b_Z_put 60 = .ok (.aload_n 0, 1) := by decide +kernel
theorem d_Z_put_61 : decode b_Z_put 61 = .ok (.getfield 87, 3) := by decide +kernel
theorem d_Z_put_64 : decode b_Z_put 64 = .ok (.iastore, 1) := by decide +kernel
theorem d_Z_put_65 : decode b_Z_put 65 = .ok (.aload_n 0, 1) := by decide +kernel
theorem d_Z_put_66 : decode b_Z_put 66 = .ok (.getfield 38, 3) := by decide +kernel
theorem d_Z_put_69 : decode b_Z_put 69 = .ok (.iload_n 3, 1) := by decide +kernel
theorem d_Z_put_70 : decode b_Z_put 70 = .ok (.iaload, 1) := by decide +kernel
theorem d_Z_put_71 : decode b_Z_put 71 = .ok (.iconst 1, 1) := by decide +kernel
theorem d_Z_put_72 : decode b_Z_put 72 = .ok (.isub, 1) := by decide +kernel
theorem d_Z_put_73 : decode b_Z_put 73 = .ok (.ireturn, 1) := by decide +kernel
theorem kw_18 : (Cond.selects "TwoEndSearchModel" ⟨"TwoEndSearchModel", "isMove", "(I)Z"⟩ ⟨"TwoEndSearchModel", "isMove", "(I)Z"⟩ : Cond) ∈ bigW := bigW_of 18 (by decide +kernel) (by decide +kernel)
theorem kw_25 : (Cond.selects "TwoEndSearchModel" ⟨"TwoEndSearchModel", "seatOf", "(I)I"⟩ ⟨"TwoEndSearchModel", "seatOf", "(I)I"⟩ : Cond) ∈ bigW := bigW_of 25 (by decide +kernel) (by decide +kernel)
theorem kw_33 : (Cond.initialized "TwoEndSearchModel" : Cond) ∈ bigW := bigW_of 33 (by decide +kernel) (by decide +kernel)
theorem kw_456 : (Cond.constant "TwoEndSearchModel" 37 65536 : Cond) ∈ bigW := bigW_of 456 (by decide +kernel) (by decide +kernel)
theorem kw_465 : (Cond.fieldLink "TwoEndSearchModel" 59 "TwoEndSearchModel" "thrown" "I" : Cond) ∈ bigW := bigW_of 465 (by decide +kernel) (by decide +kernel)
theorem kw_466 : (Cond.fieldLink "TwoEndSearchModel" 53 "TwoEndSearchModel" "places" "I" : Cond) ∈ bigW := bigW_of 466 (by decide +kernel) (by decide +kernel)
theorem kw_467 : (Cond.fieldLink "TwoEndSearchModel" 62 "TwoEndSearchModel" "moves" "I" : Cond) ∈ bigW := bigW_of 467 (by decide +kernel) (by decide +kernel)
theorem kw_468 : (Cond.fieldLink "TwoEndSearchModel" 7 "TwoEndSearchModel" "to" "[I" : Cond) ∈ bigW := bigW_of 468 (by decide +kernel) (by decide +kernel)
theorem kw_469 : (Cond.fieldLink "TwoEndSearchModel" 13 "TwoEndSearchModel" "orders" "[I" : Cond) ∈ bigW := bigW_of 469 (by decide +kernel) (by decide +kernel)
theorem kw_470 : (Cond.fieldLink "TwoEndSearchModel" 16 "TwoEndSearchModel" "start" "[I" : Cond) ∈ bigW := bigW_of 470 (by decide +kernel) (by decide +kernel)
theorem kw_471 : (Cond.fieldLink "TwoEndSearchModel" 19 "TwoEndSearchModel" "goal" "[I" : Cond) ∈ bigW := bigW_of 471 (by decide +kernel) (by decide +kernel)
theorem kw_472 : (Cond.fieldLink "TwoEndSearchModel" 22 "TwoEndSearchModel" "known" "I" : Cond) ∈ bigW := bigW_of 472 (by decide +kernel) (by decide +kernel)
theorem kw_474 : (Cond.fieldLink "TwoEndSearchModel" 87 "TwoEndSearchModel" "size" "I" : Cond) ∈ bigW := bigW_of 474 (by decide +kernel) (by decide +kernel)
theorem kw_475 : (Cond.fieldLink "TwoEndSearchModel" 27 "TwoEndSearchModel" "states" "[I" : Cond) ∈ bigW := bigW_of 475 (by decide +kernel) (by decide +kernel)
theorem kw_476 : (Cond.fieldLink "TwoEndSearchModel" 30 "TwoEndSearchModel" "steps" "[I" : Cond) ∈ bigW := bigW_of 476 (by decide +kernel) (by decide +kernel)
theorem kw_477 : (Cond.fieldLink "TwoEndSearchModel" 33 "TwoEndSearchModel" "ways" "[J" : Cond) ∈ bigW := bigW_of 477 (by decide +kernel) (by decide +kernel)
theorem kw_478 : (Cond.fieldLink "TwoEndSearchModel" 38 "TwoEndSearchModel" "seats" "[I" : Cond) ∈ bigW := bigW_of 478 (by decide +kernel) (by decide +kernel)
theorem kw_479 : (Cond.fieldLink "TwoEndSearchModel" 68 "TwoEndSearchModel" "isFound" "Z" : Cond) ∈ bigW := bigW_of 479 (by decide +kernel) (by decide +kernel)
theorem kw_539 : (Cond.methodLink "TwoEndSearchModel" 72 ⟨"TwoEndSearchModel", "isMove", "(I)Z"⟩ : Cond) ∈ bigW := bigW_of 539 (by decide +kernel) (by decide +kernel)
theorem kw_541 : (Cond.instanceMethod ⟨"TwoEndSearchModel", "isMove", "(I)Z"⟩ : Cond) ∈ bigW := bigW_of 541 (by decide +kernel) (by decide +kernel)
theorem kw_542 : (Cond.code ⟨"TwoEndSearchModel", "isMove", "(I)Z"⟩ prog_7_method_6_code 2 (some .boolean) : Cond) ∈ bigW := bigW_of 542 (by decide +kernel) (by decide +kernel)
theorem kw_586 : (Cond.methodLink "TwoEndSearchModel" 84 ⟨"TwoEndSearchModel", "seatOf", "(I)I"⟩ : Cond) ∈ bigW := bigW_of 586 (by decide +kernel) (by decide +kernel)
theorem kw_588 : (Cond.instanceMethod ⟨"TwoEndSearchModel", "seatOf", "(I)I"⟩ : Cond) ∈ bigW := bigW_of 588 (by decide +kernel) (by decide +kernel)
theorem kw_589 : (Cond.code ⟨"TwoEndSearchModel", "seatOf", "(I)I"⟩ prog_7_method_17_code 3 (some .int) : Cond) ∈ bigW := bigW_of 589 (by decide +kernel) (by decide +kernel)
theorem kw_590 : (Cond.constant "TwoEndSearchModel" 83 40503 : Cond) ∈ bigW := bigW_of 590 (by decide +kernel) (by decide +kernel)
def po_Z_change (q : wz_Q) (az : Nat → Nat) (th : Int32) (n k : Nat) (kn bk : Int32) (sz : Nat) (fd : Int32) (ln : Nat) (fm : Int32) (fw : Int64) : wz_G → Prop := fun w => w = [zo_W q az th n k (-1) bk sz (nI 0) ln fm fw]
set_option maxHeartbeats 4000000 in
set_option maxRecDepth 100000 in
/-- what was known is gone -/
theorem c_Z_change (l : Launch) (D : va_G) (q : wz_Q) (az : Nat → Nat) (th : Int32) (n k : Nat) (kn bk : Int32) (sz : Nat) (fd : Int32) (ln : Nat) (fm : Int32) (fw : Int64)  : wz_Mv l y_Z_change ws_Z_change ({ frames := 0, cells := 0, slots := 0, locals := 0 } : Room) D q ([.ref (az 0)] : List Value) [zo_W q az th n k kn bk sz fd ln fm fw] (po_Z_change q az th n k kn bk sz fd ln fm fw) 0 0 := by
  intro sz9
  refine wz_enter (cc := b_Z_change) (maxL := 1) (ret := none) (Qc := fun A => (va_Qv (po_Z_change q az th n k kn bk sz fd ln fm fw) (wz_At D q A) A)) (by decide) (Nat.le_of_ble_eq_true rfl) ?_
  intro p e s m below meth c A ls C hP hD hS hl
  obtain ⟨hx, hb, hr, hml, hlocks, hown, hts, hN, hK, hA, hnm⟩ := C
  have hown : s.vm.findClass "TwoEndSearchModel" = some m.cls := hown
  have hl : lv_has ls 1 [(0, .ref (az 0))] := hl
  refine lv_aload_n hx hb d_Z_change_0 rfl (lv_at hl 0 rfl) ?_
  refine lv_iconst (v := (-1)) hx hb d_Z_change_1 (by decide) ?_
  refine wz_put (gs' := [zo_W q az th n k (-1) bk sz fd ln fm fw]) (v := .int (-1)) (T := T_Z) (N := 22) hx hb hts i_Z t_Z t_Z_ok n_Z hown hK hP hD hS 0 0 rfl rfl rfl 7 (by decide) (hts _ kw_472) rfl rfl (ty := t_Z 7) (by decide +kernel) rfl rfl (Nat.le_of_ble_eq_true rfl) d_Z_change_2 rfl (fun H locs hP hD hS => ?_)
  refine lv_aload_n hx hb d_Z_change_5 rfl (lv_at hl 0 rfl) ?_
  refine lv_iconst (v := nI 0) hx hb d_Z_change_6 (by decide) ?_
  refine wz_put (gs' := [zo_W q az th n k (-1) bk sz (nI 0) ln fm fw]) (v := .int (nI 0)) (T := T_Z) (N := 22) hx hb hts i_Z t_Z t_Z_ok n_Z hown hK hP hD hS 0 0 rfl rfl rfl 14 (by decide) (hts _ kw_479) rfl rfl (ty := t_Z 14) (by decide +kernel) rfl rfl (Nat.le_of_ble_eq_true rfl) d_Z_change_7 rfl (fun H locs hP hD hS => ?_)
  exact wz_vret hx hb hr hlocks hK hP hD hS d_Z_change_10 rfl
def po_Z_isMove (q : wz_Q) (az : Nat → Nat) (th : Int32) (n k : Nat) (kn bk : Int32) (sz : Nat) (fd : Int32) (ln : Nat) (fm : Int32) (fw : Int64) (x : Int32) : Int32 → wz_G → Prop := fun v w => w = [zo_W q az th n k kn bk sz fd ln fm fw] ∧ wz_bit v (∃ j, j < k ∧ x = nI j)
set_option maxHeartbeats 4000000 in
set_option maxRecDepth 100000 in
/-- Z_isMove -/
theorem c_Z_isMove (l : Launch) (D : va_G) (q : wz_Q) (az : Nat → Nat) (th : Int32) (n k : Nat) (kn bk : Int32) (sz : Nat) (fd : Int32) (ln : Nat) (fm : Int32) (fw : Int64) (x : Int32) (hk : k ≤ 6) : wz_Mi l y_Z_isMove ws_Z_isMove ({ frames := 0, cells := 0, slots := 0, locals := 0 } : Room) D q ([.ref (az 0), .int x] : List Value) [zo_W q az th n k kn bk sz fd ln fm fw] (po_Z_isMove q az th n k kn bk sz fd ln fm fw x) 0 0 := by
  intro sz9
  refine wz_enter (cc := b_Z_isMove) (maxL := 2) (ret := (some .boolean)) (Qc := fun A => (va_Qi (po_Z_isMove q az th n k kn bk sz fd ln fm fw x) (wz_At D q A) A)) (by decide) (Nat.le_of_ble_eq_true rfl) ?_
  intro p e s m below meth c A ls C hP hD hS hl
  obtain ⟨hx, hb, hr, hml, hlocks, hown, hts, hN, hK, hA, hnm⟩ := C
  have hown : s.vm.findClass "TwoEndSearchModel" = some m.cls := hown
  have hl : lv_has ls 2 [(0, .ref (az 0)), (1, .int x)] := hl
  refine lv_iload_n hx hb d_Z_isMove_0 rfl (lv_at hl 1 rfl) ?_
  refine lv_if_lt (tgt := 16) hx hb d_Z_isMove_1 (by decide) (fun hc => ?_) (fun hc => ?_)
  · skip
    refine lv_iconst (v := nI 0) hx hb d_Z_isMove_16 (by decide) ?_
    exact wz_zret hx hb hr hlocks hK hP hD hS d_Z_isMove_17 (by first | exact Or.inl rfl | exact Or.inr rfl) ⟨rfl, wz_bit_lt hc⟩
  · skip
    refine lv_iload_n hx hb d_Z_isMove_4 rfl (lv_at hl 1 rfl) ?_
    refine lv_aload_n hx hb d_Z_isMove_5 rfl (lv_at hl 0 rfl) ?_
    refine wz_get (v := .int (nI k)) (T := T_Z) (N := 22) hx hb hts i_Z hown hK hP 0 0 rfl rfl rfl 2 (by decide) (hts _ kw_467) rfl rfl d_Z_isMove_6 ?_
    refine lv_icmp_ge (tgt := 16) hx hb d_Z_isMove_9 (by decide) (fun hc2 => ?_) (fun hc2 => ?_)
    · skip
      refine lv_iconst (v := nI 0) hx hb d_Z_isMove_16 (by decide) ?_
      exact wz_zret hx hb hr hlocks hK hP hD hS d_Z_isMove_17 (by first | exact Or.inl rfl | exact Or.inr rfl) ⟨rfl, wz_bit_ge (by omega) hc2⟩
    · skip
      refine lv_iconst (v := nI 1) hx hb d_Z_isMove_12 (by decide) ?_
      refine lv_goto (tgt := 17) hx hb d_Z_isMove_13 (by decide) ?_
      exact wz_zret hx hb hr hlocks hK hP hD hS d_Z_isMove_17 (by first | exact Or.inl rfl | exact Or.inr rfl) ⟨rfl, wz_bit_in (by omega) hc hc2⟩
def po_Z_isPlace (q : wz_Q) (az : Nat → Nat) (th : Int32) (n k : Nat) (kn bk : Int32) (sz : Nat) (fd : Int32) (ln : Nat) (fm : Int32) (fw : Int64) (x : Int32) : Int32 → wz_G → Prop := fun v w => w = [zo_W q az th n k kn bk sz fd ln fm fw] ∧ wz_bit v (∃ j, j < n ∧ x = nI j)
set_option maxHeartbeats 4000000 in
set_option maxRecDepth 100000 in
/-- Z_isPlace -/
theorem c_Z_isPlace (l : Launch) (D : va_G) (q : wz_Q) (az : Nat → Nat) (th : Int32) (n k : Nat) (kn bk : Int32) (sz : Nat) (fd : Int32) (ln : Nat) (fm : Int32) (fw : Int64) (x : Int32) (hn : n ≤ 8) : wz_Mi l y_Z_isPlace ws_Z_isPlace ({ frames := 0, cells := 0, slots := 0, locals := 0 } : Room) D q ([.ref (az 0), .int x] : List Value) [zo_W q az th n k kn bk sz fd ln fm fw] (po_Z_isPlace q az th n k kn bk sz fd ln fm fw x) 0 0 := by
  intro sz9
  refine wz_enter (cc := b_Z_isPlace) (maxL := 2) (ret := (some .boolean)) (Qc := fun A => (va_Qi (po_Z_isPlace q az th n k kn bk sz fd ln fm fw x) (wz_At D q A) A)) (by decide) (Nat.le_of_ble_eq_true rfl) ?_
  intro p e s m below meth c A ls C hP hD hS hl
  obtain ⟨hx, hb, hr, hml, hlocks, hown, hts, hN, hK, hA, hnm⟩ := C
  have hown : s.vm.findClass "TwoEndSearchModel" = some m.cls := hown
  have hl : lv_has ls 2 [(0, .ref (az 0)), (1, .int x)] := hl
  refine lv_iload_n hx hb d_Z_isPlace_0 rfl (lv_at hl 1 rfl) ?_
  refine lv_if_lt (tgt := 16) hx hb d_Z_isPlace_1 (by decide) (fun hc => ?_) (fun hc => ?_)
  · skip
    refine lv_iconst (v := nI 0) hx hb d_Z_isPlace_16 (by decide) ?_
    exact wz_zret hx hb hr hlocks hK hP hD hS d_Z_isPlace_17 (by first | exact Or.inl rfl | exact Or.inr rfl) ⟨rfl, wz_bit_lt hc⟩
  · skip
    refine lv_iload_n hx hb d_Z_isPlace_4 rfl (lv_at hl 1 rfl) ?_
    refine lv_aload_n hx hb d_Z_isPlace_5 rfl (lv_at hl 0 rfl) ?_
    refine wz_get (v := .int (nI n)) (T := T_Z) (N := 22) hx hb hts i_Z hown hK hP 0 0 rfl rfl rfl 1 (by decide) (hts _ kw_466) rfl rfl d_Z_isPlace_6 ?_
    refine lv_icmp_ge (tgt := 16) hx hb d_Z_isPlace_9 (by decide) (fun hc2 => ?_) (fun hc2 => ?_)
    · skip
      refine lv_iconst (v := nI 0) hx hb d_Z_isPlace_16 (by decide) ?_
      exact wz_zret hx hb hr hlocks hK hP hD hS d_Z_isPlace_17 (by first | exact Or.inl rfl | exact Or.inr rfl) ⟨rfl, wz_bit_ge (by omega) hc2⟩
    · skip
      refine lv_iconst (v := nI 1) hx hb d_Z_isPlace_12 (by decide) ?_
      refine lv_goto (tgt := 17) hx hb d_Z_isPlace_13 (by decide) ?_
      exact wz_zret hx hb hr hlocks hK hP hD hS d_Z_isPlace_17 (by first | exact Or.inl rfl | exact Or.inr rfl) ⟨rfl, wz_bit_in (by omega) hc hc2⟩
def po_Z_isMeasure (q : wz_Q) (x : Int32) : Int32 → wz_G → Prop := fun v w => w = [] ∧ wz_bit v (x = nI 0 ∨ x = nI 1)
set_option maxHeartbeats 4000000 in
set_option maxRecDepth 100000 in
/-- a measure -/
theorem c_Z_isMeasure (l : Launch) (D : va_G) (q : wz_Q) (x : Int32)  : wz_Mi l y_Z_isMeasure ws_Z_isMeasure ({ frames := 0, cells := 0, slots := 0, locals := 0 } : Room) D q ([.int x] : List Value) [] (po_Z_isMeasure q x) 0 0 := by
  intro sz9
  refine wz_enter (cc := b_Z_isMeasure) (maxL := 1) (ret := (some .boolean)) (Qc := fun A => (va_Qi (po_Z_isMeasure q x) (wz_At D q A) A)) (by decide) (Nat.le_of_ble_eq_true rfl) ?_
  intro p e s m below meth c A ls C hP hD hS hl
  obtain ⟨hx, hb, hr, hml, hlocks, hown, hts, hN, hK, hA, hnm⟩ := C
  have hown : s.vm.findClass "TwoEndSearchModel" = some m.cls := hown
  have hl : lv_has ls 1 [(0, .int x)] := hl
  refine lv_iload_n hx hb d_Z_isMeasure_0 rfl (lv_at hl 0 rfl) ?_
  refine lv_if_eq (tgt := 9) hx hb d_Z_isMeasure_1 (by decide) (fun hc => ?_) (fun hc => ?_)
  · skip
    refine lv_iconst (v := nI 1) hx hb d_Z_isMeasure_9 (by decide) ?_
    refine lv_goto (tgt := 14) hx hb d_Z_isMeasure_10 (by decide) ?_
    exact wz_zret hx hb hr hlocks hK hP hD hS d_Z_isMeasure_14 (by first | exact Or.inl rfl | exact Or.inr rfl) ⟨rfl, Or.inl ⟨rfl, Or.inl hc⟩⟩
  · skip
    refine lv_iload_n hx hb d_Z_isMeasure_4 rfl (lv_at hl 0 rfl) ?_
    refine lv_iconst (v := nI 1) hx hb d_Z_isMeasure_5 (by decide) ?_
    refine lv_icmp_ne (tgt := 13) hx hb d_Z_isMeasure_6 (by decide) (fun hc2 => ?_) (fun hc2 => ?_)
    · skip
      refine lv_iconst (v := nI 0) hx hb d_Z_isMeasure_13 (by decide) ?_
      exact wz_zret hx hb hr hlocks hK hP hD hS d_Z_isMeasure_14 (by first | exact Or.inl rfl | exact Or.inr rfl) ⟨rfl, Or.inr ⟨rfl, fun q => q.elim hc hc2⟩⟩
    · skip
      refine lv_iconst (v := nI 1) hx hb d_Z_isMeasure_9 (by decide) ?_
      refine lv_goto (tgt := 14) hx hb d_Z_isMeasure_10 (by decide) ?_
      exact wz_zret hx hb hr hlocks hK hP hD hS d_Z_isMeasure_14 (by first | exact Or.inl rfl | exact Or.inr rfl) ⟨rfl, Or.inl ⟨rfl, Or.inr hc2⟩⟩
def po_Z_most (q : wz_Q) (az : Nat → Nat) (th : Int32) (n k : Nat) (kn bk : Int32) (sz : Nat) (fd : Int32) (ln : Nat) (fm : Int32) (fw : Int64) (to fo : Nat → Int32) (j : Nat) (x : Int32) : Int32 → wz_G → Prop := fun v w => w = [zo_W q az th n k kn bk sz fd ln fm fw, zt_W q az to fo] ∧ v = if x = 0 then nI 1 else fo j - nI 1
set_option maxHeartbeats 4000000 in
set_option maxRecDepth 100000 in
/-- how often a step may do a move -/
theorem c_Z_most (l : Launch) (D : va_G) (q : wz_Q) (az : Nat → Nat) (th : Int32) (n k : Nat) (kn bk : Int32) (sz : Nat) (fd : Int32) (ln : Nat) (fm : Int32) (fw : Int64) (to fo : Nat → Int32) (j : Nat) (x : Int32) (hj : j < 6) : wz_Mi l y_Z_most ws_Z_most ({ frames := 0, cells := 0, slots := 0, locals := 0 } : Room) D q ([.ref (az 0), .int (nI j), .int x] : List Value) [zo_W q az th n k kn bk sz fd ln fm fw, zt_W q az to fo] (po_Z_most q az th n k kn bk sz fd ln fm fw to fo j x) 0 0 := by
  intro sz9
  refine wz_enter (cc := b_Z_most) (maxL := 3) (ret := (some .int)) (Qc := fun A => (va_Qi (po_Z_most q az th n k kn bk sz fd ln fm fw to fo j x) (wz_At D q A) A)) (by decide) (Nat.le_of_ble_eq_true rfl) ?_
  intro p e s m below meth c A ls C hP hD hS hl
  obtain ⟨hx, hb, hr, hml, hlocks, hown, hts, hN, hK, hA, hnm⟩ := C
  have hown : s.vm.findClass "TwoEndSearchModel" = some m.cls := hown
  have hl : lv_has ls 3 [(0, .ref (az 0)), (1, .int (nI j)), (2, .int x)] := hl
  refine lv_iload_n hx hb d_Z_most_0 rfl (lv_at hl 2 rfl) ?_
  refine lv_if_ne (tgt := 8) hx hb d_Z_most_1 (by decide) (fun hc => ?_) (fun hc => ?_)
  · skip
    refine lv_aload_n hx hb d_Z_most_8 rfl (lv_at hl 0 rfl) ?_
    refine wz_get (v := .ref (az 2)) (T := T_Z) (N := 22) hx hb hts i_Z hown hK hP 0 0 rfl rfl rfl 4 (by decide) (hts _ kw_469) rfl rfl d_Z_most_9 ?_
    refine lv_iload_n hx hb d_Z_most_12 rfl (lv_at hl 1 rfl) ?_
    refine wz_iald hx hb hK hP 1 1 (j := j) rfl rfl (by omega) (by decide) d_Z_most_13 ?_
    refine lv_iconst (v := nI 1) hx hb d_Z_most_14 (by decide) ?_
    refine lv_isub hx hb d_Z_most_15 ?_
    exact wz_iret hx hb hr hlocks hK hP hD hS d_Z_most_16 ⟨rfl, (if_neg hc).symm⟩
  · skip
    refine lv_iconst (v := nI 1) hx hb d_Z_most_4 (by decide) ?_
    refine lv_goto (tgt := 16) hx hb d_Z_most_5 (by decide) ?_
    exact wz_iret hx hb hr hlocks hK hP hD hS d_Z_most_16 ⟨rfl, (if_pos hc).symm⟩
def po_Z_order (q : wz_Q) (az : Nat → Nat) (th : Int32) (n k : Nat) (kn bk : Int32) (sz : Nat) (fd : Int32) (ln : Nat) (fm : Int32) (fw : Int64) (to fo : Nat → Int32) (x : Int32) : Int32 → wz_G → Prop := fun v w => w = [zo_W q az (nI 0) n k kn bk sz fd ln fm fw, zt_W q az to fo] ∧ ((∃ j, j < k ∧ x = nI j ∧ v = fo j) ∨ ((¬ ∃ j, j < k ∧ x = nI j) ∧ v = nI 0))
set_option maxHeartbeats 4000000 in
set_option maxRecDepth 100000 in
/-- a move's order -/
theorem c_Z_order (l : Launch) (D : va_G) (q : wz_Q) (az : Nat → Nat) (th : Int32) (n k : Nat) (kn bk : Int32) (sz : Nat) (fd : Int32) (ln : Nat) (fm : Int32) (fw : Int64) (to fo : Nat → Int32) (x : Int32) (hk : k ≤ 6) : wz_Mi l y_Z_order ws_Z_order ({ frames := 1, cells := 0, slots := 0, locals := 21 } : Room) D q ([.ref (az 0), .int x] : List Value) [zo_W q az th n k kn bk sz fd ln fm fw, zt_W q az to fo] (po_Z_order q az th n k kn bk sz fd ln fm fw to fo x) 0 0 := by
  intro sz9
  refine wz_enter (cc := b_Z_order) (maxL := 2) (ret := (some .int)) (Qc := fun A => (va_Qi (po_Z_order q az th n k kn bk sz fd ln fm fw to fo x) (wz_At D q A) A)) (by decide) (Nat.le_of_ble_eq_true rfl) ?_
  intro p e s m below meth c A ls C hP hD hS hl
  obtain ⟨hx, hb, hr, hml, hlocks, hown, hts, hN, hK, hA, hnm⟩ := C
  have hown : s.vm.findClass "TwoEndSearchModel" = some m.cls := hown
  have hl : lv_has ls 2 [(0, .ref (az 0)), (1, .int x)] := hl
  refine lv_aload_n hx hb d_Z_order_0 rfl (lv_at hl 0 rfl) ?_
  refine lv_iconst (v := nI 0) hx hb d_Z_order_1 (by decide) ?_
  refine wz_put (gs' := [zo_W q az (nI 0) n k kn bk sz fd ln fm fw, zt_W q az to fo]) (v := .int (nI 0)) (T := T_Z) (N := 22) hx hb hts i_Z t_Z t_Z_ok n_Z hown hK hP hD hS 0 0 rfl rfl rfl 0 (by decide) (hts _ kw_465) rfl rfl (ty := t_Z 0) (by decide +kernel) rfl rfl (Nat.le_of_ble_eq_true rfl) d_Z_order_2 rfl (fun H locs hP hD hS => ?_)
  refine lv_aload_n hx hb d_Z_order_5 rfl (lv_at hl 0 rfl) ?_
  refine lv_iload_n hx hb d_Z_order_6 rfl (lv_at hl 1 rfl) ?_
  have hQ := wz_split (n := 2) (gc := [zo_W q az (nI 0) n k kn bk sz fd ln fm fw]) (gr := [zt_W q az to fo]) [0] [1] rfl (by decide) rfl rfl hP hD
  refine wz_calli (va_runV (As := [.int x]) (rest := []) ⟨hx, hb, hml, hown, hts⟩ (c_Z_isMove l D q az (nI 0) n k kn bk sz fd ln fm fw x hk _) (cwV 1 hts (wz_goodV kw_539 kw_541 kw_18 kw_33 kw_542) rfl rfl rfl (by decide +kernel) ⟨Nat.le_of_ble_eq_true rfl, Nat.le_of_ble_eq_true rfl⟩) (wz_preV (gi := 0) (k := 0) hN hK hQ wz_L_ok rfl rfl rfl) rfl rfl hl.1 rfl (lv_room (Nat.le_of_ble_eq_true rfl)) d_Z_order_7 ⟨Nat.le_of_ble_eq_true rfl, Nat.le_of_ble_eq_true rfl⟩) hQ hS hA (fun v_7 gx H locs hp hP hD hS => ?_)
  obtain ⟨rfl, hp⟩ := hp
  obtain ⟨hP, hD⟩ := wz_ord (n := 2) (gs' := [zo_W q az (nI 0) n k kn bk sz fd ln fm fw, zt_W q az to fo]) [0, 1] rfl (by decide) rfl hP hD
  refine lv_if_eq (tgt := 22) hx hb d_Z_order_10 (by decide) (fun hc => ?_) (fun hc => ?_)
  · skip
    refine lv_iconst (v := nI 0) hx hb d_Z_order_22 (by decide) ?_
    exact wz_iret hx hb hr hlocks hK hP hD hS d_Z_order_23 ⟨rfl, Or.inr ⟨wz_bit_0 hp hc, rfl⟩⟩
  · skip
    obtain ⟨j, hj, rfl⟩ := wz_bit_1 hp hc
    refine lv_aload_n hx hb d_Z_order_13 rfl (lv_at hl 0 rfl) ?_
    refine wz_get (v := .ref (az 2)) (T := T_Z) (N := 22) hx hb hts i_Z hown hK hP 0 0 rfl rfl rfl 4 (by decide) (hts _ kw_469) rfl rfl d_Z_order_14 ?_
    refine lv_iload_n hx hb d_Z_order_17 rfl (lv_at hl 1 rfl) ?_
    refine wz_iald hx hb hK hP 1 1 (j := j) rfl rfl (by omega) (by decide) d_Z_order_18 ?_
    refine lv_goto (tgt := 23) hx hb d_Z_order_19 (by decide) ?_
    exact wz_iret hx hb hr hlocks hK hP hD hS d_Z_order_23 ⟨rfl, Or.inl ⟨j, hj, rfl, rfl⟩⟩
def po_Z_codeOfStart (q : wz_Q) (az : Nat → Nat) (th : Int32) (n k : Nat) (kn bk : Int32) (sz : Nat) (fd : Int32) (ln : Nat) (fm : Int32) (fw : Int64) (sb gb : Nat → Int32) (sa : Nat) : Int32 → wz_G → Prop := fun v w => w = [zo_W q az th n k kn bk sz fd ln fm fw, zs_W q az sb gb] ∧ v = nI sa
set_option maxHeartbeats 4000000 in
set_option maxRecDepth 100000 in
/-- the state as a number -/
theorem c_Z_codeOfStart (l : Launch) (D : va_G) (q : wz_Q) (az : Nat → Nat) (th : Int32) (n k : Nat) (kn bk : Int32) (sz : Nat) (fd : Int32) (ln : Nat) (fm : Int32) (fw : Int64) (sb gb : Nat → Int32) (sa : Nat) (hn : n ≤ 8) (hs : zs_ok n sb sa) : wz_Mi l y_Z_codeOfStart ws_Z_codeOfStart ({ frames := 0, cells := 0, slots := 0, locals := 0 } : Room) D q ([.ref (az 0)] : List Value) [zo_W q az th n k kn bk sz fd ln fm fw, zs_W q az sb gb] (po_Z_codeOfStart q az th n k kn bk sz fd ln fm fw sb gb sa) 0 0 := by
  intro sz9
  refine wz_enter (cc := b_Z_codeOfStart) (maxL := 3) (ret := (some .int)) (Qc := fun A => (va_Qi (po_Z_codeOfStart q az th n k kn bk sz fd ln fm fw sb gb sa) (wz_At D q A) A)) (by decide) (Nat.le_of_ble_eq_true rfl) ?_
  intro p e s m below meth c A ls C hP hD hS hl
  obtain ⟨hx, hb, hr, hml, hlocks, hown, hts, hN, hK, hA, hnm⟩ := C
  have hown : s.vm.findClass "TwoEndSearchModel" = some m.cls := hown
  have hl : lv_has ls 3 [(0, .ref (az 0))] := hl
  refine lv_iconst (v := nI 0) hx hb d_Z_codeOfStart_0 (by decide) ?_
  refine lv_istore_n (lv' := [(1, .int (nI 0)), (0, .ref (az 0))]) hx hb d_Z_codeOfStart_1 rfl hl (by decide) rfl (fun ls hl => ?_)
  refine lv_iconst (v := nI 0) hx hb d_Z_codeOfStart_2 (by decide) ?_
  refine lv_istore_n (lv' := [(2, .int (nI 0)), (1, .int (nI 0)), (0, .ref (az 0))]) hx hb d_Z_codeOfStart_3 rfl hl (by decide) rfl (fun ls hl => ?_)
  have loop : ∀ (d : Nat) (i : Nat), i ≤ n → n + 1 ≤ i + d → ∀ (H : Heap) (locs : List Loc) (ls : Array Slot), va_P D vwCl ([zo_W q az th n k kn bk sz fd ln fm fw, zs_W q az sb gb] : wz_G).flatten H → va_D A ([zo_W q az th n k kn bk sz fd ln fm fw, zs_W q az sb gb] : wz_G).flatten → va_S A s.heap H locs → lv_has ls 3 [(0, .ref (az 0)), (1, .int (nI (pz_mk (pz_dg sa) i))), (2, .int (nI i))] → W p l e ({ frames := 0, cells := 0, slots := 0, locals := 0 } : Room) s m ([.ref (az 0)] : List Value).toArray below meth c H locs 0 0 (MQ below (va_Qi (po_Z_codeOfStart q az th n k kn bk sz fd ln fm fw sb gb sa) (wz_At D q A) A) ([.ref (az 0)] : List Value).toArray s 0 0 A) (F0 m 4 ls []) := by
    intro d
    induction d with
    | zero =>
      intro i hi hd
      omega
    | succ d ih =>
      intro i hi hd H locs ls hP hD hS hl
      refine lv_iload_n hx hb d_Z_codeOfStart_4 rfl (lv_at hl 2 rfl) ?_
      refine lv_aload_n hx hb d_Z_codeOfStart_5 rfl (lv_at hl 0 rfl) ?_
      refine wz_get (v := .int (nI n)) (T := T_Z) (N := 22) hx hb hts i_Z hown hK hP 0 0 rfl rfl rfl 1 (by decide) (hts _ kw_466) rfl rfl d_Z_codeOfStart_6 ?_
      refine wz_ge (tgt := 31) hx hb d_Z_codeOfStart_9 (by decide) (by omega) (by omega) (fun hc => ?_) (fun hc => ?_)
      · skip
        have hin : i = n := by omega
        subst hin
        refine lv_iload_n hx hb d_Z_codeOfStart_31 rfl (lv_at hl 1 rfl) ?_
        exact wz_iret hx hb hr hlocks hK hP hD hS d_Z_codeOfStart_32 ⟨rfl, by rw [zs_mk_all hs.1]⟩
      · skip
        refine lv_iload_n hx hb d_Z_codeOfStart_12 rfl (lv_at hl 1 rfl) ?_
        refine lv_aload_n hx hb d_Z_codeOfStart_13 rfl (lv_at hl 0 rfl) ?_
        refine wz_get (v := .ref (az 3)) (T := T_Z) (N := 22) hx hb hts i_Z hown hK hP 0 0 rfl rfl rfl 5 (by decide) (hts _ kw_470) rfl rfl d_Z_codeOfStart_14 ?_
        refine lv_iload_n hx hb d_Z_codeOfStart_17 rfl (lv_at hl 2 rfl) ?_
        refine wz_iald hx hb hK hP 1 0 (j := i) rfl rfl (by omega) (by decide) d_Z_codeOfStart_18 ?_
        refine wz_topi (y := nI (pz_dg sa i)) (hs.2 i hc) ?_
        refine lv_iconst (v := nI 3) hx hb d_Z_codeOfStart_19 (by decide) ?_
        refine lv_iload_n hx hb d_Z_codeOfStart_20 rfl (lv_at hl 2 rfl) ?_
        refine lv_imul hx hb d_Z_codeOfStart_21 ?_
        refine wz_topi (y := nI (3 * i)) (pk_mul 3 i) ?_
        refine lv_ishl hx hb d_Z_codeOfStart_22 ?_
        refine wz_topi (y := nI (pz_dg sa i * 8 ^ i)) (pz_shl (pz_dg_lt _ _) (by omega)) ?_
        refine lv_ior hx hb d_Z_codeOfStart_23 ?_
        refine wz_topi (y := nI (pz_mk (pz_dg sa) (i + 1))) ((pz_nI_or _ _).trans (congrArg nI zs_mk_or)) ?_
        refine lv_istore_n (lv' := [(1, .int (nI (pz_mk (pz_dg sa) (i + 1)))), (0, .ref (az 0)), (2, .int (nI i))]) hx hb d_Z_codeOfStart_24 rfl hl (by decide) rfl (fun ls hl => ?_)
        refine lv_iinc (v := nI (i + 1)) (lv' := [(2, .int (nI (i + 1))), (1, .int (nI (pz_mk (pz_dg sa) (i + 1)))), (0, .ref (az 0))]) hx hb d_Z_codeOfStart_25 hl (k := 2) rfl (nI_1 i) (by decide) rfl (fun ls hl => ?_)
        refine lv_goto (tgt := 4) hx hb d_Z_codeOfStart_28 (by decide) ?_
        exact ih (i + 1) (by omega) (by omega) _ _ _ hP hD hS (lv_sub hl [2, 1, 0] rfl)
  exact loop (n + 1) 0 (by omega) (by omega) _ _ _ hP hD hS (lv_sub hl [2, 1, 0] rfl)
def po_Z_codeOfGoal (q : wz_Q) (az : Nat → Nat) (th : Int32) (n k : Nat) (kn bk : Int32) (sz : Nat) (fd : Int32) (ln : Nat) (fm : Int32) (fw : Int64) (sb gb : Nat → Int32) (sa : Nat) : Int32 → wz_G → Prop := fun v w => w = [zo_W q az th n k kn bk sz fd ln fm fw, zs_W q az sb gb] ∧ v = nI sa
set_option maxHeartbeats 4000000 in
set_option maxRecDepth 100000 in
/-- the state as a number -/
theorem c_Z_codeOfGoal (l : Launch) (D : va_G) (q : wz_Q) (az : Nat → Nat) (th : Int32) (n k : Nat) (kn bk : Int32) (sz : Nat) (fd : Int32) (ln : Nat) (fm : Int32) (fw : Int64) (sb gb : Nat → Int32) (sa : Nat) (hn : n ≤ 8) (hs : zs_ok n gb sa) : wz_Mi l y_Z_codeOfGoal ws_Z_codeOfGoal ({ frames := 0, cells := 0, slots := 0, locals := 0 } : Room) D q ([.ref (az 0)] : List Value) [zo_W q az th n k kn bk sz fd ln fm fw, zs_W q az sb gb] (po_Z_codeOfGoal q az th n k kn bk sz fd ln fm fw sb gb sa) 0 0 := by
  intro sz9
  refine wz_enter (cc := b_Z_codeOfGoal) (maxL := 3) (ret := (some .int)) (Qc := fun A => (va_Qi (po_Z_codeOfGoal q az th n k kn bk sz fd ln fm fw sb gb sa) (wz_At D q A) A)) (by decide) (Nat.le_of_ble_eq_true rfl) ?_
  intro p e s m below meth c A ls C hP hD hS hl
  obtain ⟨hx, hb, hr, hml, hlocks, hown, hts, hN, hK, hA, hnm⟩ := C
  have hown : s.vm.findClass "TwoEndSearchModel" = some m.cls := hown
  have hl : lv_has ls 3 [(0, .ref (az 0))] := hl
  refine lv_iconst (v := nI 0) hx hb d_Z_codeOfGoal_0 (by decide) ?_
  refine lv_istore_n (lv' := [(1, .int (nI 0)), (0, .ref (az 0))]) hx hb d_Z_codeOfGoal_1 rfl hl (by decide) rfl (fun ls hl => ?_)
  refine lv_iconst (v := nI 0) hx hb d_Z_codeOfGoal_2 (by decide) ?_
  refine lv_istore_n (lv' := [(2, .int (nI 0)), (1, .int (nI 0)), (0, .ref (az 0))]) hx hb d_Z_codeOfGoal_3 rfl hl (by decide) rfl (fun ls hl => ?_)
  have loop : ∀ (d : Nat) (i : Nat), i ≤ n → n + 1 ≤ i + d → ∀ (H : Heap) (locs : List Loc) (ls : Array Slot), va_P D vwCl ([zo_W q az th n k kn bk sz fd ln fm fw, zs_W q az sb gb] : wz_G).flatten H → va_D A ([zo_W q az th n k kn bk sz fd ln fm fw, zs_W q az sb gb] : wz_G).flatten → va_S A s.heap H locs → lv_has ls 3 [(0, .ref (az 0)), (1, .int (nI (pz_mk (pz_dg sa) i))), (2, .int (nI i))] → W p l e ({ frames := 0, cells := 0, slots := 0, locals := 0 } : Room) s m ([.ref (az 0)] : List Value).toArray below meth c H locs 0 0 (MQ below (va_Qi (po_Z_codeOfGoal q az th n k kn bk sz fd ln fm fw sb gb sa) (wz_At D q A) A) ([.ref (az 0)] : List Value).toArray s 0 0 A) (F0 m 4 ls []) := by
    intro d
    induction d with
    | zero =>
      intro i hi hd
      omega
    | succ d ih =>
      intro i hi hd H locs ls hP hD hS hl
      refine lv_iload_n hx hb d_Z_codeOfGoal_4 rfl (lv_at hl 2 rfl) ?_
      refine lv_aload_n hx hb d_Z_codeOfGoal_5 rfl (lv_at hl 0 rfl) ?_
      refine wz_get (v := .int (nI n)) (T := T_Z) (N := 22) hx hb hts i_Z hown hK hP 0 0 rfl rfl rfl 1 (by decide) (hts _ kw_466) rfl rfl d_Z_codeOfGoal_6 ?_
      refine wz_ge (tgt := 31) hx hb d_Z_codeOfGoal_9 (by decide) (by omega) (by omega) (fun hc => ?_) (fun hc => ?_)
      · skip
        have hin : i = n := by omega
        subst hin
        refine lv_iload_n hx hb d_Z_codeOfGoal_31 rfl (lv_at hl 1 rfl) ?_
        exact wz_iret hx hb hr hlocks hK hP hD hS d_Z_codeOfGoal_32 ⟨rfl, by rw [zs_mk_all hs.1]⟩
      · skip
        refine lv_iload_n hx hb d_Z_codeOfGoal_12 rfl (lv_at hl 1 rfl) ?_
        refine lv_aload_n hx hb d_Z_codeOfGoal_13 rfl (lv_at hl 0 rfl) ?_
        refine wz_get (v := .ref (az 4)) (T := T_Z) (N := 22) hx hb hts i_Z hown hK hP 0 0 rfl rfl rfl 6 (by decide) (hts _ kw_471) rfl rfl d_Z_codeOfGoal_14 ?_
        refine lv_iload_n hx hb d_Z_codeOfGoal_17 rfl (lv_at hl 2 rfl) ?_
        refine wz_iald hx hb hK hP 1 1 (j := i) rfl rfl (by omega) (by decide) d_Z_codeOfGoal_18 ?_
        refine wz_topi (y := nI (pz_dg sa i)) (hs.2 i hc) ?_
        refine lv_iconst (v := nI 3) hx hb d_Z_codeOfGoal_19 (by decide) ?_
        refine lv_iload_n hx hb d_Z_codeOfGoal_20 rfl (lv_at hl 2 rfl) ?_
        refine lv_imul hx hb d_Z_codeOfGoal_21 ?_
        refine wz_topi (y := nI (3 * i)) (pk_mul 3 i) ?_
        refine lv_ishl hx hb d_Z_codeOfGoal_22 ?_
        refine wz_topi (y := nI (pz_dg sa i * 8 ^ i)) (pz_shl (pz_dg_lt _ _) (by omega)) ?_
        refine lv_ior hx hb d_Z_codeOfGoal_23 ?_
        refine wz_topi (y := nI (pz_mk (pz_dg sa) (i + 1))) ((pz_nI_or _ _).trans (congrArg nI zs_mk_or)) ?_
        refine lv_istore_n (lv' := [(1, .int (nI (pz_mk (pz_dg sa) (i + 1)))), (0, .ref (az 0)), (2, .int (nI i))]) hx hb d_Z_codeOfGoal_24 rfl hl (by decide) rfl (fun ls hl => ?_)
        refine lv_iinc (v := nI (i + 1)) (lv' := [(2, .int (nI (i + 1))), (1, .int (nI (pz_mk (pz_dg sa) (i + 1)))), (0, .ref (az 0))]) hx hb d_Z_codeOfGoal_25 hl (k := 2) rfl (nI_1 i) (by decide) rfl (fun ls hl => ?_)
        refine lv_goto (tgt := 4) hx hb d_Z_codeOfGoal_28 (by decide) ?_
        exact ih (i + 1) (by omega) (by omega) _ _ _ hP hD hS (lv_sub hl [2, 1, 0] rfl)
  exact loop (n + 1) 0 (by omega) (by omega) _ _ _ hP hD hS (lv_sub hl [2, 1, 0] rfl)
def po_Z_done0 (q : wz_Q) (az : Nat → Nat) (th : Int32) (n k : Nat) (kn bk : Int32) (sz : Nat) (fd : Int32) (ln : Nat) (fm : Int32) (fw : Int64) (to fo : Nat → Int32) (cd o : Nat) (sg tu : Nat → Nat) : Int32 → wz_G → Prop := fun v w => w = [zo_W q az th n k kn bk sz fd ln fm fw, zt_W q az to fo] ∧ v = nI (pz_act n tu cd)
set_option maxHeartbeats 4000000 in
set_option maxRecDepth 100000 in
/-- a state with a move done or undone -/
theorem c_Z_done0 (l : Launch) (D : va_G) (q : wz_Q) (az : Nat → Nat) (th : Int32) (n k : Nat) (kn bk : Int32) (sz : Nat) (fd : Int32) (ln : Nat) (fm : Int32) (fw : Int64) (to fo : Nat → Int32) (cd o : Nat) (sg tu : Nat → Nat) (hn : n ≤ 8) (ho : o < 6) (hcd : cd < 8 ^ n) (hs : ∀ p, p < n → to (8 * o + p) = nI (sg p)) (hpm : pz_perm n sg tu) : wz_Mi l y_Z_done ws_Z_done ({ frames := 0, cells := 0, slots := 0, locals := 0 } : Room) D q ([.ref (az 0), .int (nI cd), .int (nI o), .int (nI 0)] : List Value) [zo_W q az th n k kn bk sz fd ln fm fw, zt_W q az to fo] (po_Z_done0 q az th n k kn bk sz fd ln fm fw to fo cd o sg tu) 0 0 := by
  intro sz9
  refine wz_enter (cc := b_Z_done) (maxL := 7) (ret := (some .int)) (Qc := fun A => (va_Qi (po_Z_done0 q az th n k kn bk sz fd ln fm fw to fo cd o sg tu) (wz_At D q A) A)) (by decide) (Nat.le_of_ble_eq_true rfl) ?_
  intro p e s m below meth c A ls C hP hD hS hl
  obtain ⟨hx, hb, hr, hml, hlocks, hown, hts, hN, hK, hA, hnm⟩ := C
  have hown : s.vm.findClass "TwoEndSearchModel" = some m.cls := hown
  have hl : lv_has ls 7 [(0, .ref (az 0)), (1, .int (nI cd)), (2, .int (nI o)), (3, .int (nI 0))] := hl
  have hc24 := pz_lt31 hn hcd
  refine lv_iconst (v := nI 0) hx hb d_Z_done_0 (by decide) ?_
  refine lv_istore (lv' := [(4, .int (nI 0)), (0, .ref (az 0)), (1, .int (nI cd)), (2, .int (nI o)), (3, .int (nI 0))]) hx hb d_Z_done_1 hl (by decide) rfl (fun ls hl => ?_)
  refine lv_iconst (v := nI 0) hx hb d_Z_done_3 (by decide) ?_
  refine lv_istore (lv' := [(5, .int (nI 0)), (4, .int (nI 0)), (0, .ref (az 0)), (1, .int (nI cd)), (2, .int (nI o)), (3, .int (nI 0))]) hx hb d_Z_done_4 hl (by decide) rfl (fun ls hl => ?_)
  have loop : ∀ (d : Nat) (i B : Nat), i ≤ n → n + 1 ≤ i + d → mv_br n cd i tu B → ∀ (H : Heap) (locs : List Loc) (ls : Array Slot), va_P D vwCl ([zo_W q az th n k kn bk sz fd ln fm fw, zt_W q az to fo] : wz_G).flatten H → va_D A ([zo_W q az th n k kn bk sz fd ln fm fw, zt_W q az to fo] : wz_G).flatten → va_S A s.heap H locs → lv_has ls 7 [(0, .ref (az 0)), (1, .int (nI cd)), (2, .int (nI o)), (3, .int (nI 0)), (4, .int (nI B)), (5, .int (nI i))] → W p l e ({ frames := 0, cells := 0, slots := 0, locals := 0 } : Room) s m ([.ref (az 0), .int (nI cd), .int (nI o), .int (nI 0)] : List Value).toArray below meth c H locs 0 0 (MQ below (va_Qi (po_Z_done0 q az th n k kn bk sz fd ln fm fw to fo cd o sg tu) (wz_At D q A) A) ([.ref (az 0), .int (nI cd), .int (nI o), .int (nI 0)] : List Value).toArray s 0 0 A) (F0 m 6 ls []) := by
    intro d
    induction d with
    | zero =>
      intro i B hi hd hB
      omega
    | succ d ih =>
      intro i B hi hd hB H locs ls hP hD hS hl
      refine lv_iload hx hb d_Z_done_6 (lv_at hl 5 rfl) ?_
      refine lv_aload_n hx hb d_Z_done_8 rfl (lv_at hl 0 rfl) ?_
      refine wz_get (v := .int (nI n)) (T := T_Z) (N := 22) hx hb hts i_Z hown hK hP 0 0 rfl rfl rfl 1 (by decide) (hts _ kw_466) rfl rfl d_Z_done_9 ?_
      refine wz_ge (tgt := 72) hx hb d_Z_done_12 (by decide) (by omega) (by omega) (fun hc => ?_) (fun hc => ?_)
      · skip
        have hin : i = n := by omega
        subst hin
        refine lv_iload hx hb d_Z_done_72 (lv_at hl 4 rfl) ?_
        exact wz_iret hx hb hr hlocks hK hP hD hS d_Z_done_74 ⟨rfl, by rw [mv_br_e hpm hB hcd]⟩
      · skip
        have hsl := (hpm i hc).1
        refine lv_aload_n hx hb d_Z_done_15 rfl (lv_at hl 0 rfl) ?_
        refine wz_get (v := .ref (az 1)) (T := T_Z) (N := 22) hx hb hts i_Z hown hK hP 0 0 rfl rfl rfl 3 (by decide) (hts _ kw_468) rfl rfl d_Z_done_16 ?_
        refine lv_bipush (v := nI 8) hx hb d_Z_done_19 (by decide) ?_
        refine lv_iload_n hx hb d_Z_done_21 rfl (lv_at hl 2 rfl) ?_
        refine lv_imul hx hb d_Z_done_22 ?_
        refine wz_topi (y := nI (8 * o)) (pk_mul 8 o) ?_
        refine lv_iload hx hb d_Z_done_23 (lv_at hl 5 rfl) ?_
        refine lv_iadd hx hb d_Z_done_25 ?_
        refine wz_topi (y := nI ((8 * o) + i)) (nI_add (8 * o) i) ?_
        refine wz_iald hx hb hK hP 1 0 (j := ((8 * o) + i)) rfl rfl (by omega) (by decide) d_Z_done_26 ?_
        refine wz_topi (y := nI (sg i)) (hs i hc) ?_
        refine lv_istore (lv' := [(6, .int (nI (sg i))), (0, .ref (az 0)), (1, .int (nI cd)), (2, .int (nI o)), (3, .int (nI 0)), (4, .int (nI B)), (5, .int (nI i))]) hx hb d_Z_done_27 hl (by decide) rfl (fun ls hl => ?_)
        refine lv_iload hx hb d_Z_done_29 (lv_at hl 5 rfl) ?_
        refine lv_iload_n hx hb d_Z_done_31 rfl (lv_at hl 2 rfl) ?_
        refine lv_iconst (v := nI 3) hx hb d_Z_done_32 (by decide) ?_
        refine lv_iload_n hx hb d_Z_done_33 rfl (lv_at hl 4 rfl) ?_
        refine lv_if_eq (tgt := 42) hx hb d_Z_done_34 (by decide) (fun hc2 => ?_) (fun hc2 => ?_)
        · skip
          refine lv_iload hx hb d_Z_done_42 (lv_at hl 6 rfl) ?_
          refine lv_imul hx hb d_Z_done_44 ?_
          refine wz_topi (y := nI (3 * i)) (pk_mul 3 i) ?_
          refine lv_ishr hx hb d_Z_done_45 ?_
          refine wz_topi (y := nI (cd / 8 ^ i)) (pz_shr (by omega) (by omega)) ?_
          refine lv_bipush (v := nI 7) hx hb d_Z_done_46 (by decide) ?_
          refine lv_iand hx hb d_Z_done_48 ?_
          refine wz_topi (y := nI (pz_dg cd i)) (pz_and7 (by have := pz_divlt hn hcd i; omega)) ?_
          refine lv_iconst (v := nI 3) hx hb d_Z_done_49 (by decide) ?_
          refine lv_iload_n hx hb d_Z_done_50 rfl (lv_at hl 4 rfl) ?_
          refine lv_if_eq (tgt := 59) hx hb d_Z_done_51 (by decide) (fun hc3 => ?_) (fun hc3 => ?_)
          · skip
            refine lv_iload hx hb d_Z_done_59 (lv_at hl 0 rfl) ?_
            refine lv_imul hx hb d_Z_done_61 ?_
            refine wz_topi (y := nI (3 * (sg i))) (pk_mul 3 (sg i)) ?_
            refine lv_ishl hx hb d_Z_done_62 ?_
            refine wz_topi (y := nI (pz_dg cd i * 8 ^ sg i)) (pz_shl (pz_dg_lt _ _) (by omega)) ?_
            refine lv_ior hx hb d_Z_done_63 ?_
            refine wz_topi (y := nI (B + pz_dg cd i * 8 ^ sg i)) (mv_or hpm hB hc) ?_
            refine lv_istore (lv' := [(4, .int (nI (B + pz_dg cd i * 8 ^ sg i))), (6, .int (nI (sg i))), (0, .ref (az 0)), (1, .int (nI cd)), (2, .int (nI o)), (3, .int (nI 0)), (5, .int (nI i))]) hx hb d_Z_done_64 hl (by decide) rfl (fun ls hl => ?_)
            refine lv_iinc (v := nI (i + 1)) (lv' := [(5, .int (nI (i + 1))), (4, .int (nI (B + pz_dg cd i * 8 ^ sg i))), (6, .int (nI (sg i))), (0, .ref (az 0)), (1, .int (nI cd)), (2, .int (nI o)), (3, .int (nI 0))]) hx hb d_Z_done_66 hl (k := 6) rfl (nI_1 i) (by decide) rfl (fun ls hl => ?_)
            refine lv_goto (tgt := 6) hx hb d_Z_done_69 (by decide) ?_
            exact ih (i + 1) (B + pz_dg cd i * 8 ^ sg i) (by omega) (by omega) (mv_br_s hpm hB hc) _ _ _ hP hD hS (lv_sub hl [3, 4, 5, 6, 1, 0] rfl)
          · skip
            exact absurd hc3 (by decide)
        · skip
          exact absurd hc2 (by decide)
  exact loop (n + 1) 0 0 (by omega) (by omega) (mv_br_0 n cd tu) _ _ _ hP hD hS (lv_sub hl [2, 3, 4, 5, 1, 0] rfl)
def po_Z_done1 (q : wz_Q) (az : Nat → Nat) (th : Int32) (n k : Nat) (kn bk : Int32) (sz : Nat) (fd : Int32) (ln : Nat) (fm : Int32) (fw : Int64) (to fo : Nat → Int32) (cd o : Nat) (sg tu : Nat → Nat) : Int32 → wz_G → Prop := fun v w => w = [zo_W q az th n k kn bk sz fd ln fm fw, zt_W q az to fo] ∧ v = nI (pz_act n sg cd)
set_option maxHeartbeats 4000000 in
set_option maxRecDepth 100000 in
/-- a state with a move done or undone -/
theorem c_Z_done1 (l : Launch) (D : va_G) (q : wz_Q) (az : Nat → Nat) (th : Int32) (n k : Nat) (kn bk : Int32) (sz : Nat) (fd : Int32) (ln : Nat) (fm : Int32) (fw : Int64) (to fo : Nat → Int32) (cd o : Nat) (sg tu : Nat → Nat) (hn : n ≤ 8) (ho : o < 6) (hcd : cd < 8 ^ n) (hs : ∀ p, p < n → to (8 * o + p) = nI (sg p)) (hpm : pz_perm n sg tu) : wz_Mi l y_Z_done ws_Z_done ({ frames := 0, cells := 0, slots := 0, locals := 0 } : Room) D q ([.ref (az 0), .int (nI cd), .int (nI o), .int (nI 1)] : List Value) [zo_W q az th n k kn bk sz fd ln fm fw, zt_W q az to fo] (po_Z_done1 q az th n k kn bk sz fd ln fm fw to fo cd o sg tu) 0 0 := by
  intro sz9
  refine wz_enter (cc := b_Z_done) (maxL := 7) (ret := (some .int)) (Qc := fun A => (va_Qi (po_Z_done1 q az th n k kn bk sz fd ln fm fw to fo cd o sg tu) (wz_At D q A) A)) (by decide) (Nat.le_of_ble_eq_true rfl) ?_
  intro p e s m below meth c A ls C hP hD hS hl
  obtain ⟨hx, hb, hr, hml, hlocks, hown, hts, hN, hK, hA, hnm⟩ := C
  have hown : s.vm.findClass "TwoEndSearchModel" = some m.cls := hown
  have hl : lv_has ls 7 [(0, .ref (az 0)), (1, .int (nI cd)), (2, .int (nI o)), (3, .int (nI 1))] := hl
  have hc24 := pz_lt31 hn hcd
  refine lv_iconst (v := nI 0) hx hb d_Z_done_0 (by decide) ?_
  refine lv_istore (lv' := [(4, .int (nI 0)), (0, .ref (az 0)), (1, .int (nI cd)), (2, .int (nI o)), (3, .int (nI 1))]) hx hb d_Z_done_1 hl (by decide) rfl (fun ls hl => ?_)
  refine lv_iconst (v := nI 0) hx hb d_Z_done_3 (by decide) ?_
  refine lv_istore (lv' := [(5, .int (nI 0)), (4, .int (nI 0)), (0, .ref (az 0)), (1, .int (nI cd)), (2, .int (nI o)), (3, .int (nI 1))]) hx hb d_Z_done_4 hl (by decide) rfl (fun ls hl => ?_)
  have loop : ∀ (d : Nat) (i B : Nat), i ≤ n → n + 1 ≤ i + d → zm_bb n cd i sg B → ∀ (H : Heap) (locs : List Loc) (ls : Array Slot), va_P D vwCl ([zo_W q az th n k kn bk sz fd ln fm fw, zt_W q az to fo] : wz_G).flatten H → va_D A ([zo_W q az th n k kn bk sz fd ln fm fw, zt_W q az to fo] : wz_G).flatten → va_S A s.heap H locs → lv_has ls 7 [(0, .ref (az 0)), (1, .int (nI cd)), (2, .int (nI o)), (3, .int (nI 1)), (4, .int (nI B)), (5, .int (nI i))] → W p l e ({ frames := 0, cells := 0, slots := 0, locals := 0 } : Room) s m ([.ref (az 0), .int (nI cd), .int (nI o), .int (nI 1)] : List Value).toArray below meth c H locs 0 0 (MQ below (va_Qi (po_Z_done1 q az th n k kn bk sz fd ln fm fw to fo cd o sg tu) (wz_At D q A) A) ([.ref (az 0), .int (nI cd), .int (nI o), .int (nI 1)] : List Value).toArray s 0 0 A) (F0 m 6 ls []) := by
    intro d
    induction d with
    | zero =>
      intro i B hi hd hB
      omega
    | succ d ih =>
      intro i B hi hd hB H locs ls hP hD hS hl
      refine lv_iload hx hb d_Z_done_6 (lv_at hl 5 rfl) ?_
      refine lv_aload_n hx hb d_Z_done_8 rfl (lv_at hl 0 rfl) ?_
      refine wz_get (v := .int (nI n)) (T := T_Z) (N := 22) hx hb hts i_Z hown hK hP 0 0 rfl rfl rfl 1 (by decide) (hts _ kw_466) rfl rfl d_Z_done_9 ?_
      refine wz_ge (tgt := 72) hx hb d_Z_done_12 (by decide) (by omega) (by omega) (fun hc => ?_) (fun hc => ?_)
      · skip
        have hin : i = n := by omega
        subst hin
        refine lv_iload hx hb d_Z_done_72 (lv_at hl 4 rfl) ?_
        exact wz_iret hx hb hr hlocks hK hP hD hS d_Z_done_74 ⟨rfl, by rw [zm_bb_e hB hcd]⟩
      · skip
        have hsl := (hpm i hc).1
        refine lv_aload_n hx hb d_Z_done_15 rfl (lv_at hl 0 rfl) ?_
        refine wz_get (v := .ref (az 1)) (T := T_Z) (N := 22) hx hb hts i_Z hown hK hP 0 0 rfl rfl rfl 3 (by decide) (hts _ kw_468) rfl rfl d_Z_done_16 ?_
        refine lv_bipush (v := nI 8) hx hb d_Z_done_19 (by decide) ?_
        refine lv_iload_n hx hb d_Z_done_21 rfl (lv_at hl 2 rfl) ?_
        refine lv_imul hx hb d_Z_done_22 ?_
        refine wz_topi (y := nI (8 * o)) (pk_mul 8 o) ?_
        refine lv_iload hx hb d_Z_done_23 (lv_at hl 5 rfl) ?_
        refine lv_iadd hx hb d_Z_done_25 ?_
        refine wz_topi (y := nI ((8 * o) + i)) (nI_add (8 * o) i) ?_
        refine wz_iald hx hb hK hP 1 0 (j := ((8 * o) + i)) rfl rfl (by omega) (by decide) d_Z_done_26 ?_
        refine wz_topi (y := nI (sg i)) (hs i hc) ?_
        refine lv_istore (lv' := [(6, .int (nI (sg i))), (0, .ref (az 0)), (1, .int (nI cd)), (2, .int (nI o)), (3, .int (nI 1)), (4, .int (nI B)), (5, .int (nI i))]) hx hb d_Z_done_27 hl (by decide) rfl (fun ls hl => ?_)
        refine lv_iload hx hb d_Z_done_29 (lv_at hl 5 rfl) ?_
        refine lv_iload_n hx hb d_Z_done_31 rfl (lv_at hl 2 rfl) ?_
        refine lv_iconst (v := nI 3) hx hb d_Z_done_32 (by decide) ?_
        refine lv_iload_n hx hb d_Z_done_33 rfl (lv_at hl 4 rfl) ?_
        refine lv_if_eq (tgt := 42) hx hb d_Z_done_34 (by decide) (fun hc2 => ?_) (fun hc2 => ?_)
        · skip
          exact absurd hc2 (by decide)
        · skip
          refine lv_iload hx hb d_Z_done_37 (lv_at hl 0 rfl) ?_
          refine lv_goto (tgt := 44) hx hb d_Z_done_39 (by decide) ?_
          refine lv_imul hx hb d_Z_done_44 ?_
          refine wz_topi (y := nI (3 * (sg i))) (pk_mul 3 (sg i)) ?_
          refine lv_ishr hx hb d_Z_done_45 ?_
          refine wz_topi (y := nI (cd / 8 ^ sg i)) (pz_shr (by omega) (by omega)) ?_
          refine lv_bipush (v := nI 7) hx hb d_Z_done_46 (by decide) ?_
          refine lv_iand hx hb d_Z_done_48 ?_
          refine wz_topi (y := nI (pz_dg cd (sg i))) (pz_and7 (by have := pz_divlt hn hcd (sg i); omega)) ?_
          refine lv_iconst (v := nI 3) hx hb d_Z_done_49 (by decide) ?_
          refine lv_iload_n hx hb d_Z_done_50 rfl (lv_at hl 4 rfl) ?_
          refine lv_if_eq (tgt := 59) hx hb d_Z_done_51 (by decide) (fun hc3 => ?_) (fun hc3 => ?_)
          · skip
            exact absurd hc3 (by decide)
          · skip
            refine lv_iload hx hb d_Z_done_54 (lv_at hl 6 rfl) ?_
            refine lv_goto (tgt := 61) hx hb d_Z_done_56 (by decide) ?_
            refine lv_imul hx hb d_Z_done_61 ?_
            refine wz_topi (y := nI (3 * i)) (pk_mul 3 i) ?_
            refine lv_ishl hx hb d_Z_done_62 ?_
            refine wz_topi (y := nI (pz_dg cd (sg i) * 8 ^ i)) (pz_shl (pz_dg_lt _ _) (by omega)) ?_
            refine lv_ior hx hb d_Z_done_63 ?_
            refine wz_topi (y := nI (B + pz_dg cd (sg i) * 8 ^ i)) (zm_or hB hc) ?_
            refine lv_istore (lv' := [(4, .int (nI (B + pz_dg cd (sg i) * 8 ^ i))), (6, .int (nI (sg i))), (0, .ref (az 0)), (1, .int (nI cd)), (2, .int (nI o)), (3, .int (nI 1)), (5, .int (nI i))]) hx hb d_Z_done_64 hl (by decide) rfl (fun ls hl => ?_)
            refine lv_iinc (v := nI (i + 1)) (lv' := [(5, .int (nI (i + 1))), (4, .int (nI (B + pz_dg cd (sg i) * 8 ^ i))), (6, .int (nI (sg i))), (0, .ref (az 0)), (1, .int (nI cd)), (2, .int (nI o)), (3, .int (nI 1))]) hx hb d_Z_done_66 hl (k := 6) rfl (nI_1 i) (by decide) rfl (fun ls hl => ?_)
            refine lv_goto (tgt := 6) hx hb d_Z_done_69 (by decide) ?_
            exact ih (i + 1) (B + pz_dg cd (sg i) * 8 ^ i) (by omega) (by omega) (zm_bb_s hB hc) _ _ _ hP hD hS (lv_sub hl [3, 4, 5, 6, 1, 0] rfl)
  exact loop (n + 1) 0 0 (by omega) (by omega) (zm_bb_0 n cd sg) _ _ _ hP hD hS (lv_sub hl [2, 3, 4, 5, 1, 0] rfl)
def po_Z_seatOf (q : wz_Q) (az : Nat → Nat) (th : Int32) (n k : Nat) (kn bk : Int32) (sz : Nat) (fd : Int32) (ln : Nat) (fm : Int32) (fw : Int64) (st sp : Nat → Int32) (wy : Nat → Int64) (se : Nat → Int32) (Q : List Nat) (sf : Nat → Nat) (cd : Nat) : Int32 → wz_G → Prop := fun v w => w = [zo_W q az th n k kn bk sz fd ln fm fw, zb_W q az st sp wy se] ∧ ∃ j, j < 65536 ∧ v = nI ((zh_hh cd + j) % 65536) ∧ pz_stop 65536 zh_hh Q sf cd j ∧ ∀ i, i < j → ¬ pz_stop 65536 zh_hh Q sf cd i
set_option maxHeartbeats 4000000 in
set_option maxRecDepth 100000 in
/-- the seat that has a state, or the free one -/
theorem c_Z_seatOf (l : Launch) (D : va_G) (q : wz_Q) (az : Nat → Nat) (th : Int32) (n k : Nat) (kn bk : Int32) (sz : Nat) (fd : Int32) (ln : Nat) (fm : Int32) (fw : Int64) (st sp : Nat → Int32) (wy : Nat → Int64) (se : Nat → Int32) (Q : List Nat) (sf : Nat → Nat) (cd : Nat) (hst : ∀ i x, Q[i]? = some x → st i = nI x) (hse : ∀ j, j < 65536 → se j = nI (sf j)) (ht : pz_ht 65536 zh_hh Q sf) (hQn : Q.length ≤ 40320) (hcd : cd < 2 ^ 24) (hx24 : ∀ x, x ∈ Q → x < 2 ^ 24) : wz_Mi l y_Z_seatOf ws_Z_seatOf ({ frames := 0, cells := 0, slots := 0, locals := 0 } : Room) D q ([.ref (az 0), .int (nI cd)] : List Value) [zo_W q az th n k kn bk sz fd ln fm fw, zb_W q az st sp wy se] (po_Z_seatOf q az th n k kn bk sz fd ln fm fw st sp wy se Q sf cd) 0 0 := by
  intro sz9
  refine wz_enter (cc := b_Z_seatOf) (maxL := 3) (ret := (some .int)) (Qc := fun A => (va_Qi (po_Z_seatOf q az th n k kn bk sz fd ln fm fw st sp wy se Q sf cd) (wz_At D q A) A)) (by decide) (Nat.le_of_ble_eq_true rfl) ?_
  intro p e s m below meth c A ls C hP hD hS hl
  obtain ⟨hx, hb, hr, hml, hlocks, hown, hts, hN, hK, hA, hnm⟩ := C
  have hown : s.vm.findClass "TwoEndSearchModel" = some m.cls := hown
  have hl : lv_has ls 3 [(0, .ref (az 0)), (1, .int (nI cd))] := hl
  obtain ⟨j0, hj0, hst0⟩ := pz_ht_stop ht (by omega) (zh_lt cd) (x := cd)
  refine lv_iload_n hx hb d_Z_seatOf_0 rfl (lv_at hl 1 rfl) ?_
  refine lv_ldc (v := nI 40503) hx hb hown (hts _ kw_590) d_Z_seatOf_1 ?_
  refine lv_imul hx hb d_Z_seatOf_3 ?_
  refine wz_topi (y := nI cd * nI 40503) rfl ?_
  refine lv_bipush (v := nI 7) hx hb d_Z_seatOf_4 (by decide) ?_
  refine lv_iushr (v := nI ((nI cd * nI 40503).toBitVec.toNat / 2 ^ 7)) hx hb d_Z_seatOf_6 (zh_ush cd) ?_
  refine lv_ldc (v := nI 65536) hx hb hown (hts _ kw_456) d_Z_seatOf_7 ?_
  refine lv_irem hx hb d_Z_seatOf_9 (by decide) ?_
  refine wz_topi (y := nI ((zh_hh cd + 0) % 65536)) (zh_rem cd) ?_
  refine lv_istore_n (lv' := [(2, .int (nI ((zh_hh cd + 0) % 65536))), (0, .ref (az 0)), (1, .int (nI cd))]) hx hb d_Z_seatOf_10 rfl hl (by decide) rfl (fun ls hl => ?_)
  have loop : ∀ (d : Nat) (j : Nat), j ≤ j0 → j0 + 1 ≤ j + d → (∀ i, i < j → ¬ pz_stop 65536 zh_hh Q sf cd i) → ∀ (H : Heap) (locs : List Loc) (ls : Array Slot), va_P D vwCl ([zo_W q az th n k kn bk sz fd ln fm fw, zb_W q az st sp wy se] : wz_G).flatten H → va_D A ([zo_W q az th n k kn bk sz fd ln fm fw, zb_W q az st sp wy se] : wz_G).flatten → va_S A s.heap H locs → lv_has ls 3 [(0, .ref (az 0)), (1, .int (nI cd)), (2, .int (nI ((zh_hh cd + j) % 65536)))] → W p l e ({ frames := 0, cells := 0, slots := 0, locals := 0 } : Room) s m ([.ref (az 0), .int (nI cd)] : List Value).toArray below meth c H locs 0 0 (MQ below (va_Qi (po_Z_seatOf q az th n k kn bk sz fd ln fm fw st sp wy se Q sf cd) (wz_At D q A) A) ([.ref (az 0), .int (nI cd)] : List Value).toArray s 0 0 A) (F0 m 11 ls []) := by
    intro d
    induction d with
    | zero =>
      intro j hj hd hno
      omega
    | succ d ih =>
      intro j hj hd hno H locs ls hP hD hS hl
      have hk : ((zh_hh cd + j) % 65536) < 65536 := Nat.mod_lt _ (by decide)
      have hv : sf ((zh_hh cd + j) % 65536) ≤ Q.length := by
        by_cases e0 : sf ((zh_hh cd + j) % 65536) = 0
        · omega
        · obtain ⟨x, hx9⟩ := ht.1 _ hk e0
          have := (List.getElem?_eq_some_iff.mp hx9).1
          omega
      refine lv_aload_n hx hb d_Z_seatOf_11 rfl (lv_at hl 0 rfl) ?_
      refine wz_get (v := .ref (az 8)) (T := T_Z) (N := 22) hx hb hts i_Z hown hK hP 0 0 rfl rfl rfl 13 (by decide) (hts _ kw_478) rfl rfl d_Z_seatOf_12 ?_
      refine lv_iload_n hx hb d_Z_seatOf_15 rfl (lv_at hl 2 rfl) ?_
      refine wz_iald hx hb hK hP 1 3 (j := ((zh_hh cd + j) % 65536)) rfl rfl (by omega) (by decide) d_Z_seatOf_16 ?_
      refine wz_topi (y := nI (sf ((zh_hh cd + j) % 65536))) (hse _ hk) ?_
      refine lv_if_eq (tgt := 47) hx hb d_Z_seatOf_17 (by decide) (fun hc => ?_) (fun hc => ?_)
      · skip
        refine lv_iload_n hx hb d_Z_seatOf_47 rfl (lv_at hl 2 rfl) ?_
        exact wz_iret hx hb hr hlocks hK hP hD hS d_Z_seatOf_48 ⟨rfl, j, by omega, rfl, Or.inl ((nI_eq (by omega) (by omega)).mp (hc.trans nI_0.symm)), hno⟩
      · skip
        have hne : sf ((zh_hh cd + j) % 65536) ≠ 0 := fun e0 => hc (by rw [e0]; rfl)
        obtain ⟨x, hgx⟩ := ht.1 _ hk hne
        have hxl := (List.getElem?_eq_some_iff.mp hgx).1
        have hx2 := hx24 x (List.mem_of_getElem? hgx)
        refine lv_aload_n hx hb d_Z_seatOf_20 rfl (lv_at hl 0 rfl) ?_
        refine wz_get (v := .ref (az 5)) (T := T_Z) (N := 22) hx hb hts i_Z hown hK hP 0 0 rfl rfl rfl 10 (by decide) (hts _ kw_475) rfl rfl d_Z_seatOf_21 ?_
        refine lv_aload_n hx hb d_Z_seatOf_24 rfl (lv_at hl 0 rfl) ?_
        refine wz_get (v := .ref (az 8)) (T := T_Z) (N := 22) hx hb hts i_Z hown hK hP 0 0 rfl rfl rfl 13 (by decide) (hts _ kw_478) rfl rfl d_Z_seatOf_25 ?_
        refine lv_iload_n hx hb d_Z_seatOf_28 rfl (lv_at hl 2 rfl) ?_
        refine wz_iald hx hb hK hP 1 3 (j := ((zh_hh cd + j) % 65536)) rfl rfl (by omega) (by decide) d_Z_seatOf_29 ?_
        refine wz_topi (y := nI (sf ((zh_hh cd + j) % 65536))) (hse _ hk) ?_
        refine lv_iconst (v := nI 1) hx hb d_Z_seatOf_30 (by decide) ?_
        refine lv_isub hx hb d_Z_seatOf_31 ?_
        refine wz_topi (y := nI (sf ((zh_hh cd + j) % 65536) - 1)) (pk_sub (by omega)) ?_
        refine wz_iald hx hb hK hP 1 0 (j := (sf ((zh_hh cd + j) % 65536) - 1)) rfl rfl (by omega) (by decide) d_Z_seatOf_32 ?_
        refine wz_topi (y := nI x) (hst _ x hgx) ?_
        refine lv_iload_n hx hb d_Z_seatOf_33 rfl (lv_at hl 1 rfl) ?_
        refine wz_eq (tgt := 47) hx hb d_Z_seatOf_34 (by decide) (by omega) (by omega) (fun hc3 => ?_) (fun hc3 => ?_)
        · skip
          refine lv_iload_n hx hb d_Z_seatOf_47 rfl (lv_at hl 2 rfl) ?_
          exact wz_iret hx hb hr hlocks hK hP hD hS d_Z_seatOf_48 ⟨rfl, j, by omega, rfl, Or.inr (hgx.trans (congrArg some hc3)), hno⟩
        · skip
          have hno' : ∀ i, i < j + 1 → ¬ pz_stop 65536 zh_hh Q sf cd i := by
            intro i hi hs
            by_cases e0 : i = j
            · subst e0
              rcases hs with q | q
              · exact hne q
              · exact hc3 (Option.some.inj (hgx.symm.trans q))
            · exact hno i (by omega) hs
          have hjl : j < j0 := by
            by_cases e0 : j = j0
            · subst e0; exact absurd hst0 (hno' j (by omega))
            · omega
          refine lv_iload_n hx hb d_Z_seatOf_37 rfl (lv_at hl 2 rfl) ?_
          refine lv_iconst (v := nI 1) hx hb d_Z_seatOf_38 (by decide) ?_
          refine lv_iadd hx hb d_Z_seatOf_39 ?_
          refine wz_topi (y := nI (((zh_hh cd + j) % 65536) + 1)) (nI_add ((zh_hh cd + j) % 65536) 1) ?_
          refine lv_ldc (v := nI 65536) hx hb hown (hts _ kw_456) d_Z_seatOf_40 ?_
          refine lv_irem hx hb d_Z_seatOf_42 (by decide) ?_
          refine wz_topi (y := nI ((zh_hh cd + (j + 1)) % 65536)) (zh_next _ j) ?_
          refine lv_istore_n (lv' := [(2, .int (nI ((zh_hh cd + (j + 1)) % 65536))), (0, .ref (az 0)), (1, .int (nI cd))]) hx hb d_Z_seatOf_43 rfl hl (by decide) rfl (fun ls hl => ?_)
          refine lv_goto (tgt := 11) hx hb d_Z_seatOf_44 (by decide) ?_
          exact ih (j + 1) (by omega) (by omega) hno' _ _ _ hP hD hS (lv_sub hl [1, 2, 0] rfl)
  exact loop (j0 + 1) 0 (by omega) (by omega) (fun i h0 => absurd h0 (by omega)) _ _ _ hP hD hS (lv_sub hl [1, 2, 0] rfl)
def po_Z_numberOf (q : wz_Q) (az : Nat → Nat) (th : Int32) (n k : Nat) (kn bk : Int32) (sz : Nat) (fd : Int32) (ln : Nat) (fm : Int32) (fw : Int64) (st sp : Nat → Int32) (wy : Nat → Int64) (se : Nat → Int32) (Q : List Nat) (sf : Nat → Nat) (cd : Nat) : Int32 → wz_G → Prop := fun v w => w = [zo_W q az th n k kn bk sz fd ln fm fw, zb_W q az st sp wy se] ∧ ((∃ j, Q[j]? = some cd ∧ v = nI j) ∨ (cd ∉ Q ∧ v = -1))
set_option maxHeartbeats 4000000 in
set_option maxRecDepth 100000 in
/-- a state's number, or -1 -/
theorem c_Z_numberOf (l : Launch) (D : va_G) (q : wz_Q) (az : Nat → Nat) (th : Int32) (n k : Nat) (kn bk : Int32) (sz : Nat) (fd : Int32) (ln : Nat) (fm : Int32) (fw : Int64) (st sp : Nat → Int32) (wy : Nat → Int64) (se : Nat → Int32) (Q : List Nat) (sf : Nat → Nat) (cd : Nat) (hst : ∀ i x, Q[i]? = some x → st i = nI x) (hse : ∀ j, j < 65536 → se j = nI (sf j)) (ht : pz_ht 65536 zh_hh Q sf) (hQn : Q.length ≤ 40320) (hcd : cd < 2 ^ 24) (hx24 : ∀ x, x ∈ Q → x < 2 ^ 24) (hnd : Q.Nodup) : wz_Mi l y_Z_numberOf ws_Z_numberOf ({ frames := 1, cells := 0, slots := 0, locals := 22 } : Room) D q ([.ref (az 0), .int (nI cd)] : List Value) [zo_W q az th n k kn bk sz fd ln fm fw, zb_W q az st sp wy se] (po_Z_numberOf q az th n k kn bk sz fd ln fm fw st sp wy se Q sf cd) 0 0 := by
  intro sz9
  refine wz_enter (cc := b_Z_numberOf) (maxL := 2) (ret := (some .int)) (Qc := fun A => (va_Qi (po_Z_numberOf q az th n k kn bk sz fd ln fm fw st sp wy se Q sf cd) (wz_At D q A) A)) (by decide) (Nat.le_of_ble_eq_true rfl) ?_
  intro p e s m below meth c A ls C hP hD hS hl
  obtain ⟨hx, hb, hr, hml, hlocks, hown, hts, hN, hK, hA, hnm⟩ := C
  have hown : s.vm.findClass "TwoEndSearchModel" = some m.cls := hown
  have hl : lv_has ls 2 [(0, .ref (az 0)), (1, .int (nI cd))] := hl
  refine lv_aload_n hx hb d_Z_numberOf_0 rfl (lv_at hl 0 rfl) ?_
  refine wz_get (v := .ref (az 8)) (T := T_Z) (N := 22) hx hb hts i_Z hown hK hP 0 0 rfl rfl rfl 13 (by decide) (hts _ kw_478) rfl rfl d_Z_numberOf_1 ?_
  refine lv_aload_n hx hb d_Z_numberOf_4 rfl (lv_at hl 0 rfl) ?_
  refine lv_iload_n hx hb d_Z_numberOf_5 rfl (lv_at hl 1 rfl) ?_
  have hQ := wz_split (n := 2) (gc := [zo_W q az th n k kn bk sz fd ln fm fw, zb_W q az st sp wy se]) (gr := []) [0, 1] [] rfl (by decide) rfl rfl hP hD
  refine wz_calli (va_runV (As := [.int (nI cd)]) (rest := [.ref (az 8)]) ⟨hx, hb, hml, hown, hts⟩ (c_Z_seatOf l D q az th n k kn bk sz fd ln fm fw st sp wy se Q sf cd hst hse ht hQn hcd hx24 _) (cwV 1 hts (wz_goodV kw_586 kw_588 kw_25 kw_33 kw_589) rfl rfl rfl (by decide +kernel) ⟨Nat.le_of_ble_eq_true rfl, Nat.le_of_ble_eq_true rfl⟩) (wz_preV (gi := 0) (k := 0) hN hK hQ wz_L_ok rfl rfl rfl) rfl rfl hl.1 rfl (lv_room (Nat.le_of_ble_eq_true rfl)) d_Z_numberOf_6 ⟨Nat.le_of_ble_eq_true rfl, Nat.le_of_ble_eq_true rfl⟩) hQ hS hA (fun v_6 gx H locs hp hP hD hS => ?_)
  obtain ⟨rfl, j, hj, rfl, hstop, hleast⟩ := hp
  have hk : ((zh_hh cd + j) % 65536) < 65536 := Nat.mod_lt _ (by decide)
  obtain ⟨hP, hD⟩ := wz_ord (n := 2) (gs' := [zo_W q az th n k kn bk sz fd ln fm fw, zb_W q az st sp wy se]) [0, 1] rfl (by decide) rfl hP hD
  refine wz_iald hx hb hK hP 1 3 (j := ((zh_hh cd + j) % 65536)) rfl rfl (by omega) (by decide) d_Z_numberOf_9 ?_
  refine wz_topi (y := nI (sf ((zh_hh cd + j) % 65536))) (hse _ hk) ?_
  refine lv_iconst (v := nI 1) hx hb d_Z_numberOf_10 (by decide) ?_
  refine lv_isub hx hb d_Z_numberOf_11 ?_
  exact wz_iret hx hb hr hlocks hK hP hD hS d_Z_numberOf_12 ⟨rfl, by
    by_cases hm : cd ∈ Q
    · obtain ⟨i, hi⟩ := List.getElem?_of_mem hm
      have h9 := pz_ht_in ht hnd (by decide) hi hstop hleast
      exact Or.inl ⟨i, hi, by rw [h9]; exact pk_sub (a := i + 1) (b := 1) (by omega)⟩
    · have h9 := pz_ht_out hm hstop
      exact Or.inr ⟨hm, by rw [h9]; decide⟩⟩
def po_Z_put (q : wz_Q) (az : Nat → Nat) (th : Int32) (n k : Nat) (kn bk : Int32) (sz : Nat) (fd : Int32) (ln : Nat) (fm : Int32) (fw : Int64) (st sp : Nat → Int32) (wy : Nat → Int64) (se : Nat → Int32) (S : pz_S) (cd d9 : Nat) : Int32 → wz_G → Prop := fun v w => ∃ (st' sp' : Nat → Int32) (wy' : Nat → Int64) (se' : Nat → Int32) (j : Nat), w = [zo_W q az th n k kn bk ((pz_take d9 S cd).1.length) fd ln fm fw, zb_W q az st' sp' wy' se'] ∧ v = nI j ∧ (pz_take d9 S cd).1[j]? = some cd ∧ zb_ok (pz_take d9 S cd) st' sp' wy' se'
set_option maxHeartbeats 4000000 in
set_option maxRecDepth 100000 in
/-- a state comes into the table -/
theorem c_Z_put (l : Launch) (D : va_G) (q : wz_Q) (az : Nat → Nat) (th : Int32) (n k : Nat) (kn bk : Int32) (sz : Nat) (fd : Int32) (ln : Nat) (fm : Int32) (fw : Int64) (st sp : Nat → Int32) (wy : Nat → Int64) (se : Nat → Int32) (S : pz_S) (cd d9 : Nat) (hsz : sz = S.1.length) (hz : zb_ok S st sp wy se) (hQn : S.1.length ≤ 40320) (hcd : cd < 2 ^ 24) (hx24 : ∀ x, x ∈ S.1 → x < 2 ^ 24) (hroom : S.2.1 cd = none → S.1.length < 40320) : wz_Mi l y_Z_put ws_Z_put ({ frames := 1, cells := 0, slots := 0, locals := 22 } : Room) D q ([.ref (az 0), .int (nI cd), .int (nI d9)] : List Value) [zo_W q az th n k kn bk sz fd ln fm fw, zb_W q az st sp wy se] (po_Z_put q az th n k kn bk sz fd ln fm fw st sp wy se S cd d9) 0 0 := by
  intro sz9
  refine wz_enter (cc := b_Z_put) (maxL := 4) (ret := (some .int)) (Qc := fun A => (va_Qi (po_Z_put q az th n k kn bk sz fd ln fm fw st sp wy se S cd d9) (wz_At D q A) A)) (by decide) (Nat.le_of_ble_eq_true rfl) ?_
  intro p e s m below meth c A ls C hP hD hS hl
  obtain ⟨hx, hb, hr, hml, hlocks, hown, hts, hN, hK, hA, hnm⟩ := C
  have hown : s.vm.findClass "TwoEndSearchModel" = some m.cls := hown
  have hl : lv_has ls 4 [(0, .ref (az 0)), (1, .int (nI cd)), (2, .int (nI d9))] := hl
  subst hsz
  obtain ⟨sf, hse, ht⟩ := hz.2.2
  refine lv_aload_n hx hb d_Z_put_0 rfl (lv_at hl 0 rfl) ?_
  refine lv_iload_n hx hb d_Z_put_1 rfl (lv_at hl 1 rfl) ?_
  have hQ := wz_split (n := 2) (gc := [zo_W q az th n k kn bk S.1.length fd ln fm fw, zb_W q az st sp wy se]) (gr := []) [0, 1] [] rfl (by decide) rfl rfl hP hD
  refine wz_calli (va_runV (As := [.int (nI cd)]) (rest := []) ⟨hx, hb, hml, hown, hts⟩ (c_Z_seatOf l D q az th n k kn bk S.1.length fd ln fm fw st sp wy se S.1 sf cd (fun i x h9 => (hz.2.1 i x h9).1) hse ht hQn hcd hx24 _) (cwV 1 hts (wz_goodV kw_586 kw_588 kw_25 kw_33 kw_589) rfl rfl rfl (by decide +kernel) ⟨Nat.le_of_ble_eq_true rfl, Nat.le_of_ble_eq_true rfl⟩) (wz_preV (gi := 0) (k := 0) hN hK hQ wz_L_ok rfl rfl rfl) rfl rfl hl.1 rfl (lv_room (Nat.le_of_ble_eq_true rfl)) d_Z_put_2 ⟨Nat.le_of_ble_eq_true rfl, Nat.le_of_ble_eq_true rfl⟩) hQ hS hA (fun v_2 gx H locs hp hP hD hS => ?_)
  obtain ⟨rfl, j, hj, rfl, hstop, hleast⟩ := hp
  have hk : ((zh_hh cd + j) % 65536) < 65536 := Nat.mod_lt _ (by decide)
  have hv : sf ((zh_hh cd + j) % 65536) ≤ S.1.length := by
    by_cases e0 : sf ((zh_hh cd + j) % 65536) = 0
    · omega
    · obtain ⟨x, hx9⟩ := ht.1 _ hk e0
      have := (List.getElem?_eq_some_iff.mp hx9).1
      omega
  obtain ⟨hP, hD⟩ := wz_ord (n := 2) (gs' := [zo_W q az th n k kn bk S.1.length fd ln fm fw, zb_W q az st sp wy se]) [0, 1] rfl (by decide) rfl hP hD
  refine lv_istore_n (lv' := [(3, .int (nI ((zh_hh cd + j) % 65536))), (0, .ref (az 0)), (1, .int (nI cd)), (2, .int (nI d9))]) hx hb d_Z_put_5 rfl hl (by decide) rfl (fun ls hl => ?_)
  refine lv_aload_n hx hb d_Z_put_6 rfl (lv_at hl 1 rfl) ?_
  refine wz_get (v := .ref (az 8)) (T := T_Z) (N := 22) hx hb hts i_Z hown hK hP 0 0 rfl rfl rfl 13 (by decide) (hts _ kw_478) rfl rfl d_Z_put_7 ?_
  refine lv_iload_n hx hb d_Z_put_10 rfl (lv_at hl 0 rfl) ?_
  refine wz_iald hx hb hK hP 1 3 (j := ((zh_hh cd + j) % 65536)) rfl rfl (by omega) (by decide) d_Z_put_11 ?_
  refine wz_topi (y := nI (sf ((zh_hh cd + j) % 65536))) (hse _ hk) ?_
  refine lv_if_ne (tgt := 65) hx hb d_Z_put_12 (by decide) (fun hc => ?_) (fun hc => ?_)
  · skip
    have hne : sf ((zh_hh cd + j) % 65536) ≠ 0 := fun e0 => hc (by rw [e0]; rfl)
    have hmt := hstop.resolve_left hne
    have hkn : S.2.1 cd ≠ none := (hz.1.2 cd).mp (List.mem_of_getElem? hmt)
    have hT : pz_take d9 S cd = S := pz_take_no hkn
    refine lv_aload_n hx hb d_Z_put_65 rfl (lv_at hl 1 rfl) ?_
    refine wz_get (v := .ref (az 8)) (T := T_Z) (N := 22) hx hb hts i_Z hown hK hP 0 0 rfl rfl rfl 13 (by decide) (hts _ kw_478) rfl rfl d_Z_put_66 ?_
    refine lv_iload_n hx hb d_Z_put_69 rfl (lv_at hl 0 rfl) ?_
    refine wz_iald hx hb hK hP 1 3 (j := ((zh_hh cd + j) % 65536)) rfl rfl (by omega) (by decide) d_Z_put_70 ?_
    refine wz_topi (y := nI (sf ((zh_hh cd + j) % 65536))) (hse _ hk) ?_
    refine lv_iconst (v := nI 1) hx hb d_Z_put_71 (by decide) ?_
    refine lv_isub hx hb d_Z_put_72 ?_
    refine wz_topi (y := nI (sf ((zh_hh cd + j) % 65536) - 1)) (pk_sub (by omega)) ?_
    exact wz_iret hx hb hr hlocks hK hP hD hS d_Z_put_73 ⟨st, sp, wy, se, sf ((zh_hh cd + j) % 65536) - 1, by rw [hT], rfl, by rw [hT]; exact hmt, by rw [hT]; exact hz⟩
  · skip
    have h0 : sf ((zh_hh cd + j) % 65536) = 0 := (nI_eq (by omega) (by omega)).mp (hc.trans nI_0.symm)
    have hnm : cd ∉ S.1 := fun hm => by
      obtain ⟨i, hi⟩ := List.getElem?_of_mem hm
      have := pz_ht_in ht hz.1.1 (by decide) hi hstop hleast
      omega
    have hnone : S.2.1 cd = none := by
      cases hq : S.2.1 cd with
      | none => rfl
      | some e9 => exact absurd (pz_far_mem hz.1 hq) hnm
    have hr9 := hroom hnone
    have hT1 : (pz_take d9 S cd).1 = S.1 ++ [cd] := by rw [pz_take_1, if_pos hnone]
    refine lv_aload_n hx hb d_Z_put_15 rfl (lv_at hl 1 rfl) ?_
    refine wz_get (v := .ref (az 5)) (T := T_Z) (N := 22) hx hb hts i_Z hown hK hP 0 0 rfl rfl rfl 10 (by decide) (hts _ kw_475) rfl rfl d_Z_put_16 ?_
    refine lv_aload_n hx hb d_Z_put_19 rfl (lv_at hl 1 rfl) ?_
    refine wz_get (v := .int (nI S.1.length)) (T := T_Z) (N := 22) hx hb hts i_Z hown hK hP 0 0 rfl rfl rfl 9 (by decide) (hts _ kw_474) rfl rfl d_Z_put_20 ?_
    refine lv_iload_n hx hb d_Z_put_23 rfl (lv_at hl 2 rfl) ?_
    refine wz_iast (gs' := [zo_W q az th n k kn bk S.1.length fd ln fm fw, zb_W q az (upd st S.1.length (nI cd)) sp wy se]) hx hb hK hP hD hS 1 0 (j := S.1.length) rfl rfl (by omega) (by decide) d_Z_put_24 rfl (fun H locs hP hD hS => ?_)
    refine lv_aload_n hx hb d_Z_put_25 rfl (lv_at hl 1 rfl) ?_
    refine wz_get (v := .ref (az 6)) (T := T_Z) (N := 22) hx hb hts i_Z hown hK hP 0 0 rfl rfl rfl 11 (by decide) (hts _ kw_476) rfl rfl d_Z_put_26 ?_
    refine lv_aload_n hx hb d_Z_put_29 rfl (lv_at hl 1 rfl) ?_
    refine wz_get (v := .int (nI S.1.length)) (T := T_Z) (N := 22) hx hb hts i_Z hown hK hP 0 0 rfl rfl rfl 9 (by decide) (hts _ kw_474) rfl rfl d_Z_put_30 ?_
    refine lv_iload_n hx hb d_Z_put_33 rfl (lv_at hl 3 rfl) ?_
    refine wz_iast (gs' := [zo_W q az th n k kn bk S.1.length fd ln fm fw, zb_W q az (upd st S.1.length (nI cd)) (upd sp S.1.length (nI d9)) wy se]) hx hb hK hP hD hS 1 1 (j := S.1.length) rfl rfl (by omega) (by decide) d_Z_put_34 rfl (fun H locs hP hD hS => ?_)
    refine lv_aload_n hx hb d_Z_put_35 rfl (lv_at hl 1 rfl) ?_
    refine wz_get (v := .ref (az 7)) (T := T_Z) (N := 22) hx hb hts i_Z hown hK hP 0 0 rfl rfl rfl 12 (by decide) (hts _ kw_477) rfl rfl d_Z_put_36 ?_
    refine lv_aload_n hx hb d_Z_put_39 rfl (lv_at hl 1 rfl) ?_
    refine wz_get (v := .int (nI S.1.length)) (T := T_Z) (N := 22) hx hb hts i_Z hown hK hP 0 0 rfl rfl rfl 9 (by decide) (hts _ kw_474) rfl rfl d_Z_put_40 ?_
    refine lv_lconst (v := 0) hx hb d_Z_put_43 rfl ?_
    refine wz_last (gs' := [zo_W q az th n k kn bk S.1.length fd ln fm fw, zb_W q az (upd st S.1.length (nI cd)) (upd sp S.1.length (nI d9)) (vp_updL wy S.1.length 0) se]) hx hb hK hP hD hS 1 2 (j := S.1.length) rfl rfl (by omega) (by decide) d_Z_put_44 rfl (fun H locs hP hD hS => ?_)
    refine lv_aload_n hx hb d_Z_put_45 rfl (lv_at hl 1 rfl) ?_
    refine lv_dup hx hb d_Z_put_46 rfl ?_
    refine wz_get (v := .int (nI S.1.length)) (T := T_Z) (N := 22) hx hb hts i_Z hown hK hP 0 0 rfl rfl rfl 9 (by decide) (hts _ kw_474) rfl rfl d_Z_put_47 ?_
    refine lv_iconst (v := nI 1) hx hb d_Z_put_50 (by decide) ?_
    refine lv_iadd hx hb d_Z_put_51 ?_
    refine wz_topi (y := nI (S.1.length + 1)) (nI_add S.1.length 1) ?_
    refine wz_put (gs' := [zo_W q az th n k kn bk (S.1.length + 1) fd ln fm fw, zb_W q az (upd st S.1.length (nI cd)) (upd sp S.1.length (nI d9)) (vp_updL wy S.1.length 0) se]) (v := .int (nI (S.1.length + 1))) (T := T_Z) (N := 22) hx hb hts i_Z t_Z t_Z_ok n_Z hown hK hP hD hS 0 0 rfl rfl rfl 9 (by decide) (hts _ kw_474) rfl rfl (ty := t_Z 9) (by decide +kernel) rfl rfl (Nat.le_of_ble_eq_true rfl) d_Z_put_52 rfl (fun H locs hP hD hS => ?_)
    refine lv_aload_n hx hb d_Z_put_55 rfl (lv_at hl 1 rfl) ?_
    refine wz_get (v := .ref (az 8)) (T := T_Z) (N := 22) hx hb hts i_Z hown hK hP 0 0 rfl rfl rfl 13 (by decide) (hts _ kw_478) rfl rfl d_Z_put_56 ?_
    refine lv_iload_n hx hb d_Z_put_59 rfl (lv_at hl 0 rfl) ?_
    refine lv_aload_n hx hb d_Z_put_60 rfl (lv_at hl 1 rfl) ?_
    refine wz_get (v := .int (nI (S.1.length + 1))) (T := T_Z) (N := 22) hx hb hts i_Z hown hK hP 0 0 rfl rfl rfl 9 (by decide) (hts _ kw_474) rfl rfl d_Z_put_61 ?_
    refine wz_iast (gs' := [zo_W q az th n k kn bk (S.1.length + 1) fd ln fm fw, zb_W q az (upd st S.1.length (nI cd)) (upd sp S.1.length (nI d9)) (vp_updL wy S.1.length 0) (upd se ((zh_hh cd + j) % 65536) (nI (S.1.length + 1)))]) hx hb hK hP hD hS 1 3 (j := ((zh_hh cd + j) % 65536)) rfl rfl (by omega) (by decide) d_Z_put_64 rfl (fun H locs hP hD hS => ?_)
    refine lv_aload_n hx hb d_Z_put_65 rfl (lv_at hl 1 rfl) ?_
    refine wz_get (v := .ref (az 8)) (T := T_Z) (N := 22) hx hb hts i_Z hown hK hP 0 0 rfl rfl rfl 13 (by decide) (hts _ kw_478) rfl rfl d_Z_put_66 ?_
    refine lv_iload_n hx hb d_Z_put_69 rfl (lv_at hl 0 rfl) ?_
    refine wz_iald hx hb hK hP 1 3 (j := ((zh_hh cd + j) % 65536)) rfl rfl (by omega) (by decide) d_Z_put_70 ?_
    refine wz_topi (y := nI (S.1.length + 1)) pk_us ?_
    refine lv_iconst (v := nI 1) hx hb d_Z_put_71 (by decide) ?_
    refine lv_isub hx hb d_Z_put_72 ?_
    refine wz_topi (y := nI S.1.length) (show _ = nI S.1.length from pk_sub (a := S.1.length + 1) (b := 1) (by omega)) ?_
    exact wz_iret hx hb hr hlocks hK hP hD hS d_Z_put_73 ⟨_, _, _, _, S.1.length, by rw [bl_take_len hnone], rfl, by rw [hT1, List.getElem?_append_right (Nat.le_refl _), Nat.sub_self]; rfl, zb_take hz hse ht hnone hj h0 hleast⟩
end
section
theorem zs_fr {s1 g1 : Nat → Int32} {i : Nat} (h1 : ∀ p, p < i → s1 p = nI p ∧ g1 p = nI p) (p : Nat) (hp : p < i + 1) : upd s1 i (nI i) p = nI p ∧ upd g1 i (nI i) p = nI p := by
  by_cases e : p = i
  · subst e; rw [pk_us, pk_us]; exact ⟨rfl, rfl⟩
  · rw [pk_un e, pk_un e]; exact h1 p (by omega)
theorem zm_fr {t1 : Nat → Int32} {k i : Nat} (h1 : ∀ p, p < i → t1 (8 * k + p) = nI p) (p : Nat) (hp : p < i + 1) : upd t1 (8 * k + i) (nI i) (8 * k + p) = nI p := by
  by_cases e : p = i
  · subst e; rw [pk_us]
  · rw [pk_un (by omega)]; exact h1 p (by omega)
theorem d_Z_fresh_0 : decode b_Z_fresh 0 = .ok (.aload_n 0, 1) := by decide +kernel
theorem d_Z_fresh_1 : decode b_Z_fresh 1 = .ok (.iconst 0, 1) := by decide +kernel
theorem d_Z_fresh_2 : decode b_Z_fresh 2 = .ok (.putfield 62, 3) := by decide +kernel
theorem d_Z_fresh_5 : decode b_Z_fresh 5 = .ok (.iconst 0, 1) := by decide +kernel
theorem d_Z_fresh_6 : decode b_Z_fresh 6 = .ok (.istore_n 1, 1) := by decide +kernel
theorem d_Z_fresh_7 : decode b_Z_fresh 7 = .ok (.iload_n 1, 1) := by decide +kernel
theorem d_Z_fresh_8 : decode b_Z_fresh 8 = .ok (.bipush 8, 2) := by decide +kernel
theorem d_Z_fresh_10 : decode b_Z_fresh 10 = .ok (.if_icmp .ge 23, 3) := by decide +kernel
theorem d_Z_fresh_13 : decode b_Z_fresh 13 = .ok (.aload_n 0, 1) := by decide +kernel
theorem d_Z_fresh_14 : decode b_Z_fresh 14 = .ok (.getfield 16, 3) := by decide +kernel
theorem d_Z_fresh_17 : decode b_Z_fresh 17 = .ok (.iload_n 1, 1) := by decide +kernel
theorem d_Z_fresh_18 : decode b_Z_fresh 18 = .ok (.iload_n 1, 1) := by decide +kernel
theorem d_Z_fresh_19 : decode b_Z_fresh 19 = .ok (.iastore, 1) := by decide +kernel
theorem d_Z_fresh_20 : decode b_Z_fresh 20 = .ok (.aload_n 0, 1) := by decide +kernel
theorem d_Z_fresh_21 : decode b_Z_fresh 21 = .ok (.getfield 19, 3) := by decide +kernel
theorem d_Z_fresh_24 : decode b_Z_fresh 24 = .ok (.iload_n 1, 1) := by decide +kernel
theorem d_Z_fresh_25 : decode b_Z_fresh 25 = .ok (.iload_n 1, 1) := by decide +kernel
theorem d_Z_fresh_26 : decode b_Z_fresh 26 = .ok (.iastore, 1) := by decide +kernel
theorem d_Z_fresh_27 : decode b_Z_fresh 27 = .ok (.iinc 1 1, 3) := by decide +kernel
theorem d_Z_fresh_30 : decode b_Z_fresh 30 = .ok (.goto (-23), 3) := by decide +kernel
theorem d_Z_fresh_33 : decode b_Z_fresh 33 = .ok (.aload_n 0, 1) := by decide +kernel
theorem d_Z_fresh_34 : decode b_Z_fresh 34 = .ok (.invokevirtual 65, 3) := by decide +kernel
theorem d_Z_fresh_37 : decode b_Z_fresh 37 = .ok (.return_, 1) := by decide +kernel
theorem d_Z_clear_0 : decode b_Z_clear 0 = .ok (.aload_n 0, 1) := by decide +kernel
theorem d_Z_clear_1 : decode b_Z_clear 1 = .ok (.iconst 0, 1) := by decide +kernel
theorem d_Z_clear_2 : decode b_Z_clear 2 = .ok (.putfield 59, 3) := by decide +kernel
theorem d_Z_clear_5 : decode b_Z_clear 5 = .ok (.aload_n 0, 1) := by decide +kernel
theorem d_Z_clear_6 : decode b_Z_clear 6 = .ok (.invokevirtual 56, 3) := by decide +kernel
theorem d_Z_clear_9 : decode b_Z_clear 9 = .ok (.return_, 1) := by decide +kernel
theorem d_Z_move_0 : decode b_Z_move 0 = .ok (.aload_n 0, 1) := by decide +kernel
theorem d_Z_move_1 : decode b_Z_move 1 = .ok (.iconst 0, 1) := by decide +kernel
theorem d_Z_move_2 : decode b_Z_move 2 = .ok (.putfield 59, 3) := by decide +kernel
theorem d_Z_move_5 : decode b_Z_move 5 = .ok (.aload_n 0, 1) := by decide +kernel
theorem d_Z_move_6 : decode b_Z_move 6 = .ok (.getfield 62, 3) := by decide +kernel
theorem d_Z_move_9 : decode b_Z_move 9 = .ok (.bipush 6, 2) := by decide +kernel
theorem d_Z_move_11 : decode b_Z_move 11 = .ok (.if_icmp .ne 5, 3) := by decide +kernel
theorem d_Z_move_14 : decode b_Z_move 14 = .ok (.iconst (-1), 1) := by decide +kernel
theorem d_Z_move_15 : decode b_Z_move 15 = .ok (.ireturn, 1) := by decide +kernel
theorem d_Z_move_16 : decode b_Z_move 16 = .ok (.iconst 0, 1) := by decide +kernel
theorem d_Z_move_17 : decode b_Z_move 17 = .ok (.istore_n 1, 1) := by decide +kernel
theorem d_Z_move_18 : decode b_Z_move 18 = .ok (.iload_n 1, 1) := by decide +kernel
theorem d_Z_move_19 : decode b_Z_move 19 = .ok (.bipush 8, 2) := by decide +kernel
theorem d_Z_move_21 : decode b_Z_move 21 = .ok (.if_icmp .ge 24, 3) := by decide +kernel
theorem d_Z_move_24 : decode b_Z_move 24 = .ok (.aload_n 0, 1) := by decide +kernel
theorem d_Z_move_25 : decode b_Z_move 25 = .ok (.getfield 7, 3) := by decide +kernel
theorem d_Z_move_28 : decode b_Z_move 28 = .ok (.bipush 8, 2) := by decide +kernel
theorem d_Z_move_30 : decode b_Z_move 30 = .ok (.aload_n 0, 1) := by decide +kernel
theorem d_Z_move_31 : decode b_Z_move 31 = .ok (.getfield 62, 3) := by decide +kernel
theorem d_Z_move_34 : decode b_Z_move 34 = .ok (.imul, 1) := by decide +kernel
theorem d_Z_move_35 : decode b_Z_move 35 = .ok (.iload_n 1, 1) := by decide +kernel
theorem d_Z_move_36 : decode b_Z_move 36 = .ok (.iadd, 1) := by decide +kernel
theorem d_Z_move_37 : decode b_Z_move 37 = .ok (.iload_n 1, 1) := by decide +kernel
theorem d_Z_move_38 : decode b_Z_move 38 = .ok (.iastore, 1) := by decide +kernel
theorem d_Z_move_39 : decode b_Z_move 39 = .ok (.iinc 1 1, 3) := by decide +kernel
theorem d_Z_move_42 : decode b_Z_move 42 = .ok (.goto (-24), 3) := by decide +kernel
theorem d_Z_move_45 : decode b_Z_move 45 = .ok (.aload_n 0, 1) := by decide +kernel
theorem d_Z_move_46 : decode b_Z_move 46 = .ok (.getfield 13, 3) := by decide +kernel
theorem d_Z_move_49 : decode b_Z_move 49 = .ok (.aload_n 0, 1) := by decide +kernel
theorem d_Z_move_50 : decode b_Z_move 50 = .ok (.getfield 62, 3) := by decide +kernel
theorem d_Z_move_53 : decode b_Z_move 53 = .ok (.iconst 1, 1) := by decide +kernel
theorem d_Z_move_54 : decode b_Z_move 54 = .ok (.iastore, 1) := by decide +kernel
theorem d_Z_move_55 : decode b_Z_move 55 = .ok (.aload_n 0, 1) := by decide +kernel
theorem d_Z_move_56 : decode b_Z_move 56 = .ok (.dup, 1) := by decide +kernel
theorem d_Z_move_57 : decode b_Z_move 57 = .ok (.getfield 62, 3) := by decide +kernel
theorem d_Z_move_60 : decode b_Z_move 60 = .ok (.iconst 1, 1) := by decide +kernel
theorem d_Z_move_61 : decode b_Z_move 61 = .ok (.iadd, 1) := by decide +kernel
theorem d_Z_move_62 : decode b_Z_move 62 = .ok (.putfield 62, 3) := by decide +kernel
theorem d_Z_move_65 : decode b_Z_move 65 = .ok (.aload_n 0, 1) := by decide +kernel
theorem d_Z_move_66 : decode b_Z_move 66 = .ok (.invokevirtual 65, 3) := by decide +kernel
theorem d_Z_move_69 : decode b_Z_move 69 = .ok (.aload_n 0, 1) := by decide +kernel
theorem d_Z_move_70 : decode b_Z_move 70 = .ok (.getfield 62, 3) := by decide +kernel
theorem d_Z_move_73 : decode b_Z_move 73 = .ok (.iconst 1, 1) := by decide +kernel
theorem d_Z_move_74 : decode b_Z_move 74 = .ok (.isub, 1) := by decide +kernel
theorem d_Z_move_75 : decode b_Z_move 75 = .ok (.ireturn, 1) := by decide +kernel
theorem d_Z_orderOf_0 : decode b_Z_orderOf 0 = .ok (.iconst 1, 1) := by decide +kernel
theorem d_Z_orderOf_1 : decode b_Z_orderOf 1 = .ok (.istore_n 2, 1) := by decide +kernel
theorem d_Z_orderOf_2 : decode b_Z_orderOf 2 = .ok (.iconst 1, 1) := by decide +kernel
theorem d_Z_orderOf_3 : decode b_Z_orderOf 3 = .ok (.istore_n 3, 1) := by decide +kernel
theorem d_Z_orderOf_4 : decode b_Z_orderOf 4 = .ok (.iconst 0, 1) := by decide +kernel
theorem d_Z_orderOf_5 : decode b_Z_orderOf 5 = .ok (.istore 4, 2) := by decide +kernel
theorem d_Z_orderOf_7 : decode b_Z_orderOf 7 = .ok (.iload 4, 2) := by decide +kernel
theorem d_Z_orderOf_9 : decode b_Z_orderOf 9 = .ok (.aload_n 0, 1) := by decide +kernel
theorem d_Z_orderOf_10 : decode b_Z_orderOf 10 = .ok (.getfield 53, 3) := by decide +kernel
theorem d_Z_orderOf_13 : decode b_Z_orderOf 13 = .ok (.if_icmp .ge 59, 3) := by decide +kernel
theorem d_Z_orderOf_16 : decode b_Z_orderOf 16 = .ok (.iload_n 3, 1) := by decide +kernel
theorem d_Z_orderOf_17 : decode b_Z_orderOf 17 = .ok (.ifCond .eq 55, 3) := by decide +kernel
theorem d_Z_orderOf_20 : decode b_Z_orderOf 20 = .ok (.iload 4, 2) := by decide +kernel
theorem d_Z_orderOf_22 : decode b_Z_orderOf 22 = .ok (.istore 5, 2) := by decide +kernel
theorem d_Z_orderOf_24 : decode b_Z_orderOf 24 = .ok (.iconst 0, 1) := by decide +kernel
theorem d_Z_orderOf_25 : decode b_Z_orderOf 25 = .ok (.istore 6, 2) := by decide +kernel
theorem d_Z_orderOf_27 : decode b_Z_orderOf 27 = .ok (.iload 6, 2) := by decide +kernel
theorem d_Z_orderOf_29 : decode b_Z_orderOf 29 = .ok (.iload_n 2, 1) := by decide +kernel
theorem d_Z_orderOf_30 : decode b_Z_orderOf 30 = .ok (.if_icmp .ge 23, 3) := by decide +kernel
theorem d_Z_orderOf_33 : decode b_Z_orderOf 33 = .ok (.aload_n 0, 1) := by decide +kernel
theorem d_Z_orderOf_34 : decode b_Z_orderOf 34 = .ok (.getfield 7, 3) := by decide +kernel
theorem d_Z_orderOf_37 : decode b_Z_orderOf 37 = .ok (.bipush 8, 2) := by decide +kernel
theorem d_Z_orderOf_39 : decode b_Z_orderOf 39 = .ok (.iload_n 1, 1) := by decide +kernel
theorem d_Z_orderOf_40 : decode b_Z_orderOf 40 = .ok (.imul, 1) := by decide +kernel
theorem d_Z_orderOf_41 : decode b_Z_orderOf 41 = .ok (.iload 5, 2) := by decide +kernel
theorem d_Z_orderOf_43 : decode b_Z_orderOf 43 = .ok (.iadd, 1) := by decide +kernel
theorem d_Z_orderOf_44 : decode b_Z_orderOf 44 = .ok (.iaload, 1) := by decide +kernel
theorem d_Z_orderOf_45 : decode b_Z_orderOf 45 = .ok (.istore 5, 2) := by decide +kernel
theorem d_Z_orderOf_47 : decode b_Z_orderOf 47 = .ok (.iinc 6 1, 3) := by decide +kernel
theorem d_Z_orderOf_50 : decode b_Z_orderOf 50 = .ok (.goto (-23), 3) := by decide +kernel
theorem d_Z_orderOf_53 : decode b_Z_orderOf 53 = .ok (.iload 5, 2) := by decide +kernel
theorem d_Z_orderOf_55 : decode b_Z_orderOf 55 = .ok (.iload 4, 2) := by decide +kernel
theorem d_Z_orderOf_57 : decode b_Z_orderOf 57 = .ok (.if_icmp .ne 7, 3) := by decide +kernel
theorem d_Z_orderOf_60 : decode b_Z_orderOf 60 = .ok (.iconst 1, 1) := by decide +kernel
theorem d_Z_orderOf_61 : decode b_Z_orderOf 61 = .ok (.goto 4, 3) := by decide +kernel
theorem d_Z_orderOf_64 : decode b_Z_orderOf 64 = .ok (.iconst 0, 1) := by decide +kernel
theorem d_Z_orderOf_65 : decode b_Z_orderOf 65 = .ok (.istore_n 3, 1) := by decide +kernel
theorem d_Z_orderOf_66 : decode b_Z_orderOf 66 = .ok (.iinc 4 1, 3) := by decide +kernel
theorem d_Z_orderOf_69 : decode b_Z_orderOf 69 = .ok (.goto (-62), 3) := by decide +kernel
theorem d_Z_orderOf_72 : decode b_Z_orderOf 72 = .ok (.iload_n 3, 1) := by decide +kernel
theorem d_Z_orderOf_73 : decode b_Z_orderOf 73 = .ok (.ifCond .eq 5, 3) := by decide +kernel
theorem d_Z_orderOf_76 : decode b_Z_orderOf 76 = .ok (.iload_n 2, 1) := by decide +kernel
theorem d_Z_orderOf_77 : decode b_Z_orderOf 77 = .ok (.ireturn, 1) := by decide +kernel
theorem d_Z_orderOf_78 : decode b_Z_orderOf 78 = .ok (.iinc 2 1, 3) := by decide +kernel
theorem d_Z_orderOf_81 : decode b_Z_orderOf 81 = .ok (.goto (-79), 3) := by decide +kernel
theorem d_Z_cycle_0 : decode b_Z_cycle 0 = .ok (.aload_n 0, 1) := by decide +kernel
theorem d_Z_cycle_1 : decode b_Z_cycle 1 = .ok (.iconst 0, 1) := by decide +kernel
theorem d_Z_cycle_2 : decode b_Z_cycle 2 = .ok (.putfield 59, 3) := by decide +kernel
theorem d_Z_cycle_5 : decode b_Z_cycle 5 = .ok (.aload_n 0, 1) := by decide +kernel
theorem d_Z_cycle_6 : decode b_Z_cycle 6 = .ok (.iload_n 1, 1) := by decide +kernel
theorem d_Z_cycle_7 : decode b_Z_cycle 7 = .ok (.invokevirtual 72, 3) := by decide +kernel
theorem d_Z_cycle_10 : decode b_Z_cycle 10 = .ok (.ifCond .eq 39, 3) := by decide +kernel
theorem d_Z_cycle_13 : decode b_Z_cycle 13 = .ok (.aload_n 0, 1) := by decide +kernel
theorem d_Z_cycle_14 : decode b_Z_cycle 14 = .ok (.iload_n 2, 1) := by decide +kernel
theorem d_Z_cycle_15 : decode b_Z_cycle 15 = .ok (.invokevirtual 76, 3) := by decide +kernel
theorem d_Z_cycle_18 : decode b_Z_cycle 18 = .ok (.ifCond .eq 31, 3) := by decide +kernel
theorem d_Z_cycle_21 : decode b_Z_cycle 21 = .ok (.aload_n 0, 1) := by decide +kernel
theorem d_Z_cycle_22 : decode b_Z_cycle 22 = .ok (.iload_n 3, 1) := by decide +kernel
theorem d_Z_cycle_23 : decode b_Z_cycle 23 = .ok (.invokevirtual 76, 3) := by decide +kernel
theorem d_Z_cycle_26 : decode b_Z_cycle 26 = .ok (.ifCond .eq 23, 3) := by decide +kernel
theorem d_Z_cycle_29 : decode b_Z_cycle 29 = .ok (.iload_n 2, 1) := by decide +kernel
theorem d_Z_cycle_30 : decode b_Z_cycle 30 = .ok (.iload_n 3, 1) := by decide +kernel
theorem d_Z_cycle_31 : decode b_Z_cycle 31 = .ok (.if_icmp .eq 18, 3) := by decide +kernel
theorem d_Z_cycle_34 : decode b_Z_cycle 34 = .ok (.aload_n 0, 1) := by decide +kernel
theorem d_Z_cycle_35 : decode b_Z_cycle 35 = .ok (.getfield 7, 3) := by decide +kernel
theorem d_Z_cycle_38 : decode b_Z_cycle 38 = .ok (.bipush 8, 2) := by decide +kernel
theorem d_Z_cycle_40 : decode b_Z_cycle 40 = .ok (.iload_n 1, 1) := by decide +kernel
theorem d_Z_cycle_41 : decode b_Z_cycle 41 = .ok (.imul, 1) := by decide +kernel
theorem d_Z_cycle_42 : decode b_Z_cycle 42 = .ok (.iload_n 3, 1) := by decide +kernel
theorem d_Z_cycle_43 : decode b_Z_cycle 43 = .ok (.iadd, 1) := by decide +kernel
theorem d_Z_cycle_44 : decode b_Z_cycle 44 = .ok (.iaload, 1) := by decide +kernel
theorem d_Z_cycle_45 : decode b_Z_cycle 45 = .ok (.iload_n 3, 1) := by decide +kernel
theorem d_Z_cycle_46 : decode b_Z_cycle 46 = .ok (.if_icmp .eq 5, 3) := by decide +kernel
theorem d_Z_cycle_49 : decode b_Z_cycle 49 = .ok (.iconst 0, 1) := by decide +kernel
theorem d_Z_cycle_50 : decode b_Z_cycle 50 = .ok (.ireturn, 1) := by decide +kernel
theorem d_Z_cycle_51 : decode b_Z_cycle 51 = .ok (.aload_n 0, 1) := by decide +kernel
theorem d_Z_cycle_52 : decode b_Z_cycle 52 = .ok (.getfield 7, 3) := by decide +kernel
theorem d_Z_cycle_55 : decode b_Z_cycle 55 = .ok (.bipush 8, 2) := by decide +kernel
theorem d_Z_cycle_57 : decode b_Z_cycle 57 = .ok (.iload_n 1, 1) := by decide +kernel
theorem d_Z_cycle_58 : decode b_Z_cycle 58 = .ok (.imul, 1) := by decide +kernel
theorem d_Z_cycle_59 : decode b_Z_cycle 59 = .ok (.iload_n 3, 1) := by decide +kernel
theorem d_Z_cycle_60 : decode b_Z_cycle 60 = .ok (.iadd, 1) := by decide +kernel
theorem d_Z_cycle_61 : decode b_Z_cycle 61 = .ok (.aload_n 0, 1) := by decide +kernel
theorem d_Z_cycle_62 : decode b_Z_cycle 62 = .ok (.getfield 7, 3) := by decide +kernel
theorem d_Z_cycle_65 : decode b_Z_cycle 65 = .ok (.bipush 8, 2) := by decide +kernel
theorem d_Z_cycle_67 : decode b_Z_cycle 67 = .ok (.iload_n 1, 1) := by decide +kernel
theorem d_Z_cycle_68 : decode b_Z_cycle 68 = .ok (.imul, 1) := by decide +kernel
theorem d_Z_cycle_69 : decode b_Z_cycle 69 = .ok (.iload_n 2, 1) := by decide +kernel
theorem d_Z_cycle_70 : decode b_Z_cycle 70 = .ok (.iadd, 1) := by decide +kernel
theorem d_Z_cycle_71 : decode b_Z_cycle 71 = .ok (.iaload, 1) := by decide +kernel
theorem d_Z_cycle_72 : decode b_Z_cycle 72 = .ok (.iastore, 1) := by decide +kernel
theorem d_Z_cycle_73 : decode b_Z_cycle 73 = .ok (.aload_n 0, 1) := by decide +kernel
theorem d_Z_cycle_74 : decode b_Z_cycle 74 = .ok (.getfield 7, 3) := by decide +kernel
theorem d_Z_cycle_77 : decode b_Z_cycle 77 = .ok (.bipush 8, 2) := by decide +kernel
theorem d_Z_cycle_79 : decode b_Z_cycle 79 = .ok (.iload_n 1, 1) := by decide +kernel
theorem d_Z_cycle_80 : decode b_Z_cycle 80 = .ok (.imul, 1) := by decide +kernel
theorem d_Z_cycle_81 : decode b_Z_cycle 81 = .ok (.iload_n 2, 1) := by decide +kernel
theorem d_Z_cycle_82 : decode b_Z_cycle 82 = .ok (.iadd, 1) := by decide +kernel
theorem d_Z_cycle_83 : decode b_Z_cycle 83 = .ok (.iload_n 3, 1) := by decide +kernel
theorem d_Z_cycle_84 : decode b_Z_cycle 84 = .ok (.iastore, 1) := by decide +kernel
theorem d_Z_cycle_85 : decode b_Z_cycle 85 = .ok (.aload_n 0, 1) := by decide +kernel
theorem d_Z_cycle_86 : decode b_Z_cycle 86 = .ok (.getfield 13, 3) := by decide +kernel
theorem d_Z_cycle_89 : decode b_Z_cycle 89 = .ok (.iload_n 1, 1) := by decide +kernel
theorem d_Z_cycle_90 : decode b_Z_cycle 90 = .ok (.aload_n 0, 1) := by decide +kernel
theorem d_Z_cycle_91 : decode b_Z_cycle 91 = .ok (.iload_n 1, 1) := by decide +kernel
theorem d_Z_cycle_92 : decode b_Z_cycle 92 = .ok (.invokevirtual 79, 3) := by decide +kernel
theorem d_Z_cycle_95 : decode b_Z_cycle 95 = .ok (.iastore, 1) := by decide +kernel
theorem d_Z_cycle_96 : decode b_Z_cycle 96 = .ok (.aload_n 0, 1) := by decide +kernel
theorem d_Z_cycle_97 : decode b_Z_cycle 97 = .ok (.invokevirtual 65, 3) := by decide +kernel
theorem d_Z_cycle_100 : decode b_Z_cycle 100 = .ok (.iconst 1, 1) := by decide +kernel
theorem d_Z_cycle_101 : decode b_Z_cycle 101 = .ok (.ireturn, 1) := by decide +kernel
theorem d_Z_label_0 : decode b_Z_label 0 = .ok (.aload_n 0, 1) := by decide +kernel
theorem d_Z_label_1 : decode b_Z_label 1 = .ok (.iconst 0, 1) := by decide +kernel
theorem d_Z_label_2 : decode b_Z_label 2 = .ok (.putfield 59, 3) := by decide +kernel
theorem d_Z_label_5 : decode b_Z_label 5 = .ok (.aload_n 0, 1) := by decide +kernel
theorem d_Z_label_6 : decode b_Z_label 6 = .ok (.iload_n 2, 1) := by decide +kernel
theorem d_Z_label_7 : decode b_Z_label 7 = .ok (.invokevirtual 76, 3) := by decide +kernel
theorem d_Z_label_10 : decode b_Z_label 10 = .ok (.ifCond .eq 13, 3) := by decide +kernel
theorem d_Z_label_13 : decode b_Z_label 13 = .ok (.iload_n 3, 1) := by decide +kernel
theorem d_Z_label_14 : decode b_Z_label 14 = .ok (.ifCond .lt 9, 3) := by decide +kernel
theorem d_Z_label_17 : decode b_Z_label 17 = .ok (.iload_n 3, 1) := by decide +kernel
theorem d_Z_label_18 : decode b_Z_label 18 = .ok (.bipush 7, 2) := by decide +kernel
theorem d_Z_label_20 : decode b_Z_label 20 = .ok (.if_icmp .le 5, 3) := by decide +kernel
theorem d_Z_label_23 : decode b_Z_label 23 = .ok (.iconst 0, 1) := by decide +kernel
theorem d_Z_label_24 : decode b_Z_label 24 = .ok (.ireturn, 1) := by decide +kernel
theorem d_Z_label_25 : decode b_Z_label 25 = .ok (.iload_n 1, 1) := by decide +kernel
theorem d_Z_label_26 : decode b_Z_label 26 = .ok (.ifCond .eq 13, 3) := by decide +kernel
theorem d_Z_label_29 : decode b_Z_label 29 = .ok (.aload_n 0, 1) := by decide +kernel
theorem d_Z_label_30 : decode b_Z_label 30 = .ok (.getfield 19, 3) := by decide +kernel
theorem d_Z_label_33 : decode b_Z_label 33 = .ok (.iload_n 2, 1) := by decide +kernel
theorem d_Z_label_34 : decode b_Z_label 34 = .ok (.iload_n 3, 1) := by decide +kernel
theorem d_Z_label_35 : decode b_Z_label 35 = .ok (.iastore, 1) := by decide +kernel
theorem d_Z_label_36 : decode b_Z_label 36 = .ok (.goto 10, 3) := by decide +kernel
theorem d_Z_label_39 : decode b_Z_label 39 = .ok (.aload_n 0, 1) := by decide +kernel
theorem d_Z_label_40 : decode b_Z_label 40 = .ok (.getfield 16, 3) := by decide +kernel
theorem d_Z_label_43 : decode b_Z_label 43 = .ok (.iload_n 2, 1) := by decide +kernel
theorem d_Z_label_44 : decode b_Z_label 44 = .ok (.iload_n 3, 1) := by decide +kernel
theorem d_Z_label_45 : decode b_Z_label 45 = .ok (.iastore, 1) := by decide +kernel
theorem d_Z_label_46 : decode b_Z_label 46 = .ok (.aload_n 0, 1) := by decide +kernel
theorem d_Z_label_47 : decode b_Z_label 47 = .ok (.invokevirtual 65, 3) := by decide +kernel
theorem d_Z_label_50 : decode b_Z_label 50 = .ok (.iconst 1, 1) := by decide +kernel
theorem d_Z_label_51 : decode b_Z_label 51 = .ok (.ireturn, 1) := by decide +kernel
theorem kw_16 : (Cond.selects "TwoEndSearchModel" ⟨"TwoEndSearchModel", "fresh", "()V"⟩ ⟨"TwoEndSearchModel", "fresh", "()V"⟩ : Cond) ∈ bigW := bigW_of 16 (by decide +kernel) (by decide +kernel)
theorem kw_17 : (Cond.selects "TwoEndSearchModel" ⟨"TwoEndSearchModel", "change", "()V"⟩ ⟨"TwoEndSearchModel", "change", "()V"⟩ : Cond) ∈ bigW := bigW_of 17 (by decide +kernel) (by decide +kernel)
theorem kw_19 : (Cond.selects "TwoEndSearchModel" ⟨"TwoEndSearchModel", "isPlace", "(I)Z"⟩ ⟨"TwoEndSearchModel", "isPlace", "(I)Z"⟩ : Cond) ∈ bigW := bigW_of 19 (by decide +kernel) (by decide +kernel)
theorem kw_20 : (Cond.selects "TwoEndSearchModel" ⟨"TwoEndSearchModel", "orderOf", "(I)I"⟩ ⟨"TwoEndSearchModel", "orderOf", "(I)I"⟩ : Cond) ∈ bigW := bigW_of 20 (by decide +kernel) (by decide +kernel)
theorem kw_457 : (Cond.methodLink "TwoEndSearchModel" 56 ⟨"TwoEndSearchModel", "fresh", "()V"⟩ : Cond) ∈ bigW := bigW_of 457 (by decide +kernel) (by decide +kernel)
theorem kw_459 : (Cond.instanceMethod ⟨"TwoEndSearchModel", "fresh", "()V"⟩ : Cond) ∈ bigW := bigW_of 459 (by decide +kernel) (by decide +kernel)
theorem kw_460 : (Cond.code ⟨"TwoEndSearchModel", "fresh", "()V"⟩ prog_7_method_3_code 2 none : Cond) ∈ bigW := bigW_of 460 (by decide +kernel) (by decide +kernel)
theorem kw_461 : (Cond.methodLink "TwoEndSearchModel" 65 ⟨"TwoEndSearchModel", "change", "()V"⟩ : Cond) ∈ bigW := bigW_of 461 (by decide +kernel) (by decide +kernel)
theorem kw_463 : (Cond.instanceMethod ⟨"TwoEndSearchModel", "change", "()V"⟩ : Cond) ∈ bigW := bigW_of 463 (by decide +kernel) (by decide +kernel)
theorem kw_464 : (Cond.code ⟨"TwoEndSearchModel", "change", "()V"⟩ prog_7_method_4_code 1 none : Cond) ∈ bigW := bigW_of 464 (by decide +kernel) (by decide +kernel)
theorem kw_543 : (Cond.methodLink "TwoEndSearchModel" 76 ⟨"TwoEndSearchModel", "isPlace", "(I)Z"⟩ : Cond) ∈ bigW := bigW_of 543 (by decide +kernel) (by decide +kernel)
theorem kw_545 : (Cond.instanceMethod ⟨"TwoEndSearchModel", "isPlace", "(I)Z"⟩ : Cond) ∈ bigW := bigW_of 545 (by decide +kernel) (by decide +kernel)
theorem kw_546 : (Cond.code ⟨"TwoEndSearchModel", "isPlace", "(I)Z"⟩ prog_7_method_5_code 2 (some .boolean) : Cond) ∈ bigW := bigW_of 546 (by decide +kernel) (by decide +kernel)
theorem kw_547 : (Cond.methodLink "TwoEndSearchModel" 79 ⟨"TwoEndSearchModel", "orderOf", "(I)I"⟩ : Cond) ∈ bigW := bigW_of 547 (by decide +kernel) (by decide +kernel)
theorem kw_549 : (Cond.instanceMethod ⟨"TwoEndSearchModel", "orderOf", "(I)I"⟩ : Cond) ∈ bigW := bigW_of 549 (by decide +kernel) (by decide +kernel)
theorem kw_550 : (Cond.code ⟨"TwoEndSearchModel", "orderOf", "(I)I"⟩ prog_7_method_9_code 7 (some .int) : Cond) ∈ bigW := bigW_of 550 (by decide +kernel) (by decide +kernel)
def po_Z_fresh (q : wz_Q) (az : Nat → Nat) (th : Int32) (n k : Nat) (kn bk : Int32) (sz : Nat) (fd : Int32) (ln : Nat) (fm : Int32) (fw : Int64) (sb gb : Nat → Int32) : wz_G → Prop := fun w => ∃ (sb' gb' : Nat → Int32), w = [zo_W q az th n 0 (-1) bk sz (nI 0) ln fm fw, zs_W q az sb' gb'] ∧ (∀ p, p < 8 → sb' p = nI p ∧ gb' p = nI p)
set_option maxHeartbeats 4000000 in
set_option maxRecDepth 100000 in
/-- no move, label p at place p -/
theorem c_Z_fresh (l : Launch) (D : va_G) (q : wz_Q) (az : Nat → Nat) (th : Int32) (n k : Nat) (kn bk : Int32) (sz : Nat) (fd : Int32) (ln : Nat) (fm : Int32) (fw : Int64) (sb gb : Nat → Int32)  : wz_Mv l y_Z_fresh ws_Z_fresh ({ frames := 1, cells := 0, slots := 0, locals := 20 } : Room) D q ([.ref (az 0)] : List Value) [zo_W q az th n k kn bk sz fd ln fm fw, zs_W q az sb gb] (po_Z_fresh q az th n k kn bk sz fd ln fm fw sb gb) 0 0 := by
  intro sz9
  refine wz_enter (cc := b_Z_fresh) (maxL := 2) (ret := none) (Qc := fun A => (va_Qv (po_Z_fresh q az th n k kn bk sz fd ln fm fw sb gb) (wz_At D q A) A)) (by decide) (Nat.le_of_ble_eq_true rfl) ?_
  intro p e s m below meth c A ls C hP hD hS hl
  obtain ⟨hx, hb, hr, hml, hlocks, hown, hts, hN, hK, hA, hnm⟩ := C
  have hown : s.vm.findClass "TwoEndSearchModel" = some m.cls := hown
  have hl : lv_has ls 2 [(0, .ref (az 0))] := hl
  refine lv_aload_n hx hb d_Z_fresh_0 rfl (lv_at hl 0 rfl) ?_
  refine lv_iconst (v := nI 0) hx hb d_Z_fresh_1 (by decide) ?_
  refine wz_put (gs' := [zo_W q az th n 0 kn bk sz fd ln fm fw, zs_W q az sb gb]) (v := .int (nI 0)) (T := T_Z) (N := 22) hx hb hts i_Z t_Z t_Z_ok n_Z hown hK hP hD hS 0 0 rfl rfl rfl 2 (by decide) (hts _ kw_467) rfl rfl (ty := t_Z 2) (by decide +kernel) rfl rfl (Nat.le_of_ble_eq_true rfl) d_Z_fresh_2 rfl (fun H locs hP hD hS => ?_)
  refine lv_iconst (v := nI 0) hx hb d_Z_fresh_5 (by decide) ?_
  refine lv_istore_n (lv' := [(1, .int (nI 0)), (0, .ref (az 0))]) hx hb d_Z_fresh_6 rfl hl (by decide) rfl (fun ls hl => ?_)
  have loop : ∀ (d : Nat) (i : Nat) (s1 g1 : Nat → Int32), i ≤ 8 → 9 ≤ i + d → (∀ p, p < i → s1 p = nI p ∧ g1 p = nI p) → ∀ (H : Heap) (locs : List Loc) (ls : Array Slot), va_P D vwCl ([zo_W q az th n 0 kn bk sz fd ln fm fw, zs_W q az s1 g1] : wz_G).flatten H → va_D A ([zo_W q az th n 0 kn bk sz fd ln fm fw, zs_W q az s1 g1] : wz_G).flatten → va_S A s.heap H locs → lv_has ls 2 [(0, .ref (az 0)), (1, .int (nI i))] → W p l e ({ frames := 1, cells := 0, slots := 0, locals := 20 } : Room) s m ([.ref (az 0)] : List Value).toArray below meth c H locs 0 0 (MQ below (va_Qv (po_Z_fresh q az th n k kn bk sz fd ln fm fw sb gb) (wz_At D q A) A) ([.ref (az 0)] : List Value).toArray s 0 0 A) (F0 m 7 ls []) := by
    intro d
    induction d with
    | zero =>
      intro i s1 g1 hi hd h1
      omega
    | succ d ih =>
      intro i s1 g1 hi hd h1 H locs ls hP hD hS hl
      refine lv_iload_n hx hb d_Z_fresh_7 rfl (lv_at hl 1 rfl) ?_
      refine lv_bipush (v := nI 8) hx hb d_Z_fresh_8 (by decide) ?_
      refine wz_ge (tgt := 33) hx hb d_Z_fresh_10 (by decide) (by omega) (by omega) (fun hc => ?_) (fun hc => ?_)
      · skip
        refine lv_aload_n hx hb d_Z_fresh_33 rfl (lv_at hl 0 rfl) ?_
        have hQ := wz_split (n := 2) (gc := [zo_W q az th n 0 kn bk sz fd ln fm fw]) (gr := [zs_W q az s1 g1]) [0] [1] rfl (by decide) rfl rfl hP hD
        refine wz_callv (va_runV (As := []) (rest := []) ⟨hx, hb, hml, hown, hts⟩ (c_Z_change l D q az th n 0 kn bk sz fd ln fm fw _) (cwV 0 hts (wz_goodV kw_461 kw_463 kw_17 kw_33 kw_464) rfl rfl rfl (by decide +kernel) ⟨Nat.le_of_ble_eq_true rfl, Nat.le_of_ble_eq_true rfl⟩) (wz_preV (gi := 0) (k := 0) hN hK hQ wz_L_ok rfl rfl rfl) rfl rfl hl.1 rfl (lv_room (Nat.le_of_ble_eq_true rfl)) d_Z_fresh_34 ⟨Nat.le_of_ble_eq_true rfl, Nat.le_of_ble_eq_true rfl⟩) hQ hS hA (fun gx H locs hp hP hD hS => ?_)
        have hp : gx = _ := hp
        subst hp
        obtain ⟨hP, hD⟩ := wz_ord (n := 2) (gs' := [zo_W q az th n 0 (-1) bk sz (nI 0) ln fm fw, zs_W q az s1 g1]) [0, 1] rfl (by decide) rfl hP hD
        exact wz_vret hx hb hr hlocks hK hP hD hS d_Z_fresh_37 ⟨s1, g1, rfl, fun p hp => h1 p (by omega)⟩
      · skip
        refine lv_aload_n hx hb d_Z_fresh_13 rfl (lv_at hl 0 rfl) ?_
        refine wz_get (v := .ref (az 3)) (T := T_Z) (N := 22) hx hb hts i_Z hown hK hP 0 0 rfl rfl rfl 5 (by decide) (hts _ kw_470) rfl rfl d_Z_fresh_14 ?_
        refine lv_iload_n hx hb d_Z_fresh_17 rfl (lv_at hl 1 rfl) ?_
        refine lv_iload_n hx hb d_Z_fresh_18 rfl (lv_at hl 1 rfl) ?_
        refine wz_iast (gs' := [zo_W q az th n 0 kn bk sz fd ln fm fw, zs_W q az (upd s1 i (nI i)) g1]) hx hb hK hP hD hS 1 0 (j := i) rfl rfl (by omega) (by decide) d_Z_fresh_19 rfl (fun H locs hP hD hS => ?_)
        refine lv_aload_n hx hb d_Z_fresh_20 rfl (lv_at hl 0 rfl) ?_
        refine wz_get (v := .ref (az 4)) (T := T_Z) (N := 22) hx hb hts i_Z hown hK hP 0 0 rfl rfl rfl 6 (by decide) (hts _ kw_471) rfl rfl d_Z_fresh_21 ?_
        refine lv_iload_n hx hb d_Z_fresh_24 rfl (lv_at hl 1 rfl) ?_
        refine lv_iload_n hx hb d_Z_fresh_25 rfl (lv_at hl 1 rfl) ?_
        refine wz_iast (gs' := [zo_W q az th n 0 kn bk sz fd ln fm fw, zs_W q az (upd s1 i (nI i)) (upd g1 i (nI i))]) hx hb hK hP hD hS 1 1 (j := i) rfl rfl (by omega) (by decide) d_Z_fresh_26 rfl (fun H locs hP hD hS => ?_)
        refine lv_iinc (v := nI (i + 1)) (lv' := [(1, .int (nI (i + 1))), (0, .ref (az 0))]) hx hb d_Z_fresh_27 hl (k := 1) rfl (nI_1 i) (by decide) rfl (fun ls hl => ?_)
        refine lv_goto (tgt := 7) hx hb d_Z_fresh_30 (by decide) ?_
        exact ih (i + 1) (upd s1 i (nI i)) (upd g1 i (nI i)) (by omega) (by omega) (zs_fr h1) _ _ _ hP hD hS (lv_sub hl [1, 0] rfl)
  exact loop 9 0 sb gb (by omega) (by omega) (fun p h0 => absurd h0 (by omega)) _ _ _ hP hD hS (lv_sub hl [1, 0] rfl)
def po_Z_clear (q : wz_Q) (az : Nat → Nat) (th : Int32) (n k : Nat) (kn bk : Int32) (sz : Nat) (fd : Int32) (ln : Nat) (fm : Int32) (fw : Int64) (sb gb : Nat → Int32) : wz_G → Prop := fun w => ∃ (sb' gb' : Nat → Int32), w = [zo_W q az (nI 0) n 0 (-1) bk sz (nI 0) ln fm fw, zs_W q az sb' gb'] ∧ (∀ p, p < 8 → sb' p = nI p ∧ gb' p = nI p)
set_option maxHeartbeats 4000000 in
set_option maxRecDepth 100000 in
/-- as new -/
theorem c_Z_clear (l : Launch) (D : va_G) (q : wz_Q) (az : Nat → Nat) (th : Int32) (n k : Nat) (kn bk : Int32) (sz : Nat) (fd : Int32) (ln : Nat) (fm : Int32) (fw : Int64) (sb gb : Nat → Int32)  : wz_Mv l y_Z_clear ws_Z_clear ({ frames := 2, cells := 0, slots := 0, locals := 41 } : Room) D q ([.ref (az 0)] : List Value) [zo_W q az th n k kn bk sz fd ln fm fw, zs_W q az sb gb] (po_Z_clear q az th n k kn bk sz fd ln fm fw sb gb) 0 0 := by
  intro sz9
  refine wz_enter (cc := b_Z_clear) (maxL := 1) (ret := none) (Qc := fun A => (va_Qv (po_Z_clear q az th n k kn bk sz fd ln fm fw sb gb) (wz_At D q A) A)) (by decide) (Nat.le_of_ble_eq_true rfl) ?_
  intro p e s m below meth c A ls C hP hD hS hl
  obtain ⟨hx, hb, hr, hml, hlocks, hown, hts, hN, hK, hA, hnm⟩ := C
  have hown : s.vm.findClass "TwoEndSearchModel" = some m.cls := hown
  have hl : lv_has ls 1 [(0, .ref (az 0))] := hl
  refine lv_aload_n hx hb d_Z_clear_0 rfl (lv_at hl 0 rfl) ?_
  refine lv_iconst (v := nI 0) hx hb d_Z_clear_1 (by decide) ?_
  refine wz_put (gs' := [zo_W q az (nI 0) n k kn bk sz fd ln fm fw, zs_W q az sb gb]) (v := .int (nI 0)) (T := T_Z) (N := 22) hx hb hts i_Z t_Z t_Z_ok n_Z hown hK hP hD hS 0 0 rfl rfl rfl 0 (by decide) (hts _ kw_465) rfl rfl (ty := t_Z 0) (by decide +kernel) rfl rfl (Nat.le_of_ble_eq_true rfl) d_Z_clear_2 rfl (fun H locs hP hD hS => ?_)
  refine lv_aload_n hx hb d_Z_clear_5 rfl (lv_at hl 0 rfl) ?_
  have hQ := wz_split (n := 2) (gc := [zo_W q az (nI 0) n k kn bk sz fd ln fm fw, zs_W q az sb gb]) (gr := []) [0, 1] [] rfl (by decide) rfl rfl hP hD
  refine wz_callv (va_runV (As := []) (rest := []) ⟨hx, hb, hml, hown, hts⟩ (c_Z_fresh l D q az (nI 0) n k kn bk sz fd ln fm fw sb gb _) (cwV 0 hts (wz_goodV kw_457 kw_459 kw_16 kw_33 kw_460) rfl rfl rfl (by decide +kernel) ⟨Nat.le_of_ble_eq_true rfl, Nat.le_of_ble_eq_true rfl⟩) (wz_preV (gi := 0) (k := 0) hN hK hQ wz_L_ok rfl rfl rfl) rfl rfl hl.1 rfl (lv_room (Nat.le_of_ble_eq_true rfl)) d_Z_clear_6 ⟨Nat.le_of_ble_eq_true rfl, Nat.le_of_ble_eq_true rfl⟩) hQ hS hA (fun gx H locs hp hP hD hS => ?_)
  obtain ⟨s1, g1, rfl, h1⟩ := hp
  obtain ⟨hP, hD⟩ := wz_ord (n := 2) (gs' := [zo_W q az (nI 0) n 0 (-1) bk sz (nI 0) ln fm fw, zs_W q az s1 g1]) [0, 1] rfl (by decide) rfl hP hD
  exact wz_vret hx hb hr hlocks hK hP hD hS d_Z_clear_9 ⟨s1, g1, rfl, h1⟩
def po_Z_move (q : wz_Q) (az : Nat → Nat) (th : Int32) (n k : Nat) (kn bk : Int32) (sz : Nat) (fd : Int32) (ln : Nat) (fm : Int32) (fw : Int64) (to fo : Nat → Int32) : Int32 → wz_G → Prop := fun v w => (k = 6 ∧ v = -1 ∧ w = [zo_W q az (nI 0) n k kn bk sz fd ln fm fw, zt_W q az to fo]) ∨ (k < 6 ∧ v = nI k ∧ ∃ to' : Nat → Int32, w = [zo_W q az (nI 0) n (k + 1) (-1) bk sz (nI 0) ln fm fw, zt_W q az to' (upd fo k (nI 1))] ∧ (∀ p, p < 8 → to' (8 * k + p) = nI p) ∧ ∀ i, i < 8 * k → to' i = to i)
set_option maxHeartbeats 4000000 in
set_option maxRecDepth 100000 in
/-- a move that leaves everything -/
theorem c_Z_move (l : Launch) (D : va_G) (q : wz_Q) (az : Nat → Nat) (th : Int32) (n k : Nat) (kn bk : Int32) (sz : Nat) (fd : Int32) (ln : Nat) (fm : Int32) (fw : Int64) (to fo : Nat → Int32) (hk : k ≤ 6) : wz_Mi l y_Z_move ws_Z_move ({ frames := 1, cells := 0, slots := 0, locals := 20 } : Room) D q ([.ref (az 0)] : List Value) [zo_W q az th n k kn bk sz fd ln fm fw, zt_W q az to fo] (po_Z_move q az th n k kn bk sz fd ln fm fw to fo) 0 0 := by
  intro sz9
  refine wz_enter (cc := b_Z_move) (maxL := 2) (ret := (some .int)) (Qc := fun A => (va_Qi (po_Z_move q az th n k kn bk sz fd ln fm fw to fo) (wz_At D q A) A)) (by decide) (Nat.le_of_ble_eq_true rfl) ?_
  intro p e s m below meth c A ls C hP hD hS hl
  obtain ⟨hx, hb, hr, hml, hlocks, hown, hts, hN, hK, hA, hnm⟩ := C
  have hown : s.vm.findClass "TwoEndSearchModel" = some m.cls := hown
  have hl : lv_has ls 2 [(0, .ref (az 0))] := hl
  refine lv_aload_n hx hb d_Z_move_0 rfl (lv_at hl 0 rfl) ?_
  refine lv_iconst (v := nI 0) hx hb d_Z_move_1 (by decide) ?_
  refine wz_put (gs' := [zo_W q az (nI 0) n k kn bk sz fd ln fm fw, zt_W q az to fo]) (v := .int (nI 0)) (T := T_Z) (N := 22) hx hb hts i_Z t_Z t_Z_ok n_Z hown hK hP hD hS 0 0 rfl rfl rfl 0 (by decide) (hts _ kw_465) rfl rfl (ty := t_Z 0) (by decide +kernel) rfl rfl (Nat.le_of_ble_eq_true rfl) d_Z_move_2 rfl (fun H locs hP hD hS => ?_)
  refine lv_aload_n hx hb d_Z_move_5 rfl (lv_at hl 0 rfl) ?_
  refine wz_get (v := .int (nI k)) (T := T_Z) (N := 22) hx hb hts i_Z hown hK hP 0 0 rfl rfl rfl 2 (by decide) (hts _ kw_467) rfl rfl d_Z_move_6 ?_
  refine lv_bipush (v := nI 6) hx hb d_Z_move_9 (by decide) ?_
  refine wz_ne (tgt := 16) hx hb d_Z_move_11 (by decide) (by omega) (by omega) (fun hc => ?_) (fun hc => ?_)
  · skip
    have hk6 : k < 6 := by omega
    refine lv_iconst (v := nI 0) hx hb d_Z_move_16 (by decide) ?_
    refine lv_istore_n (lv' := [(1, .int (nI 0)), (0, .ref (az 0))]) hx hb d_Z_move_17 rfl hl (by decide) rfl (fun ls hl => ?_)
    have loop : ∀ (d : Nat) (i : Nat) (t1 : Nat → Int32), i ≤ 8 → 9 ≤ i + d → (∀ p, p < i → t1 (8 * k + p) = nI p) → (∀ j, j < 8 * k → t1 j = to j) → ∀ (H : Heap) (locs : List Loc) (ls : Array Slot), va_P D vwCl ([zo_W q az (nI 0) n k kn bk sz fd ln fm fw, zt_W q az t1 fo] : wz_G).flatten H → va_D A ([zo_W q az (nI 0) n k kn bk sz fd ln fm fw, zt_W q az t1 fo] : wz_G).flatten → va_S A s.heap H locs → lv_has ls 2 [(0, .ref (az 0)), (1, .int (nI i))] → W p l e ({ frames := 1, cells := 0, slots := 0, locals := 20 } : Room) s m ([.ref (az 0)] : List Value).toArray below meth c H locs 0 0 (MQ below (va_Qi (po_Z_move q az th n k kn bk sz fd ln fm fw to fo) (wz_At D q A) A) ([.ref (az 0)] : List Value).toArray s 0 0 A) (F0 m 18 ls []) := by
      intro d
      induction d with
      | zero =>
        intro i t1 hi hd h1 h2
        omega
      | succ d ih =>
        intro i t1 hi hd h1 h2 H locs ls hP hD hS hl
        refine lv_iload_n hx hb d_Z_move_18 rfl (lv_at hl 1 rfl) ?_
        refine lv_bipush (v := nI 8) hx hb d_Z_move_19 (by decide) ?_
        refine wz_ge (tgt := 45) hx hb d_Z_move_21 (by decide) (by omega) (by omega) (fun hc2 => ?_) (fun hc2 => ?_)
        · skip
          refine lv_aload_n hx hb d_Z_move_45 rfl (lv_at hl 0 rfl) ?_
          refine wz_get (v := .ref (az 2)) (T := T_Z) (N := 22) hx hb hts i_Z hown hK hP 0 0 rfl rfl rfl 4 (by decide) (hts _ kw_469) rfl rfl d_Z_move_46 ?_
          refine lv_aload_n hx hb d_Z_move_49 rfl (lv_at hl 0 rfl) ?_
          refine wz_get (v := .int (nI k)) (T := T_Z) (N := 22) hx hb hts i_Z hown hK hP 0 0 rfl rfl rfl 2 (by decide) (hts _ kw_467) rfl rfl d_Z_move_50 ?_
          refine lv_iconst (v := nI 1) hx hb d_Z_move_53 (by decide) ?_
          refine wz_iast (gs' := [zo_W q az (nI 0) n k kn bk sz fd ln fm fw, zt_W q az t1 (upd fo k (nI 1))]) hx hb hK hP hD hS 1 1 (j := k) rfl rfl (by omega) (by decide) d_Z_move_54 rfl (fun H locs hP hD hS => ?_)
          refine lv_aload_n hx hb d_Z_move_55 rfl (lv_at hl 0 rfl) ?_
          refine lv_dup hx hb d_Z_move_56 rfl ?_
          refine wz_get (v := .int (nI k)) (T := T_Z) (N := 22) hx hb hts i_Z hown hK hP 0 0 rfl rfl rfl 2 (by decide) (hts _ kw_467) rfl rfl d_Z_move_57 ?_
          refine lv_iconst (v := nI 1) hx hb d_Z_move_60 (by decide) ?_
          refine lv_iadd hx hb d_Z_move_61 ?_
          refine wz_topi (y := nI (k + 1)) (nI_add k 1) ?_
          refine wz_put (gs' := [zo_W q az (nI 0) n (k + 1) kn bk sz fd ln fm fw, zt_W q az t1 (upd fo k (nI 1))]) (v := .int (nI (k + 1))) (T := T_Z) (N := 22) hx hb hts i_Z t_Z t_Z_ok n_Z hown hK hP hD hS 0 0 rfl rfl rfl 2 (by decide) (hts _ kw_467) rfl rfl (ty := t_Z 2) (by decide +kernel) rfl rfl (Nat.le_of_ble_eq_true rfl) d_Z_move_62 rfl (fun H locs hP hD hS => ?_)
          refine lv_aload_n hx hb d_Z_move_65 rfl (lv_at hl 0 rfl) ?_
          have hQ := wz_split (n := 2) (gc := [zo_W q az (nI 0) n (k + 1) kn bk sz fd ln fm fw]) (gr := [zt_W q az t1 (upd fo k (nI 1))]) [0] [1] rfl (by decide) rfl rfl hP hD
          refine wz_callv (va_runV (As := []) (rest := []) ⟨hx, hb, hml, hown, hts⟩ (c_Z_change l D q az (nI 0) n (k + 1) kn bk sz fd ln fm fw _) (cwV 0 hts (wz_goodV kw_461 kw_463 kw_17 kw_33 kw_464) rfl rfl rfl (by decide +kernel) ⟨Nat.le_of_ble_eq_true rfl, Nat.le_of_ble_eq_true rfl⟩) (wz_preV (gi := 0) (k := 0) hN hK hQ wz_L_ok rfl rfl rfl) rfl rfl hl.1 rfl (lv_room (Nat.le_of_ble_eq_true rfl)) d_Z_move_66 ⟨Nat.le_of_ble_eq_true rfl, Nat.le_of_ble_eq_true rfl⟩) hQ hS hA (fun gx H locs hp hP hD hS => ?_)
          have hp : gx = _ := hp
          subst hp
          obtain ⟨hP, hD⟩ := wz_ord (n := 2) (gs' := [zo_W q az (nI 0) n (k + 1) (-1) bk sz (nI 0) ln fm fw, zt_W q az t1 (upd fo k (nI 1))]) [0, 1] rfl (by decide) rfl hP hD
          refine lv_aload_n hx hb d_Z_move_69 rfl (lv_at hl 0 rfl) ?_
          refine wz_get (v := .int (nI (k + 1))) (T := T_Z) (N := 22) hx hb hts i_Z hown hK hP 0 0 rfl rfl rfl 2 (by decide) (hts _ kw_467) rfl rfl d_Z_move_70 ?_
          refine lv_iconst (v := nI 1) hx hb d_Z_move_73 (by decide) ?_
          refine lv_isub hx hb d_Z_move_74 ?_
          refine wz_topi (y := nI k) (show _ = nI k from pk_sub (a := k + 1) (b := 1) (by omega)) ?_
          exact wz_iret hx hb hr hlocks hK hP hD hS d_Z_move_75 (Or.inr ⟨hk6, rfl, t1, rfl, fun p hp => h1 p (by omega), h2⟩)
        · skip
          refine lv_aload_n hx hb d_Z_move_24 rfl (lv_at hl 0 rfl) ?_
          refine wz_get (v := .ref (az 1)) (T := T_Z) (N := 22) hx hb hts i_Z hown hK hP 0 0 rfl rfl rfl 3 (by decide) (hts _ kw_468) rfl rfl d_Z_move_25 ?_
          refine lv_bipush (v := nI 8) hx hb d_Z_move_28 (by decide) ?_
          refine lv_aload_n hx hb d_Z_move_30 rfl (lv_at hl 0 rfl) ?_
          refine wz_get (v := .int (nI k)) (T := T_Z) (N := 22) hx hb hts i_Z hown hK hP 0 0 rfl rfl rfl 2 (by decide) (hts _ kw_467) rfl rfl d_Z_move_31 ?_
          refine lv_imul hx hb d_Z_move_34 ?_
          refine wz_topi (y := nI (8 * k)) (pk_mul 8 k) ?_
          refine lv_iload_n hx hb d_Z_move_35 rfl (lv_at hl 1 rfl) ?_
          refine lv_iadd hx hb d_Z_move_36 ?_
          refine wz_topi (y := nI ((8 * k) + i)) (nI_add (8 * k) i) ?_
          refine lv_iload_n hx hb d_Z_move_37 rfl (lv_at hl 1 rfl) ?_
          refine wz_iast (gs' := [zo_W q az (nI 0) n k kn bk sz fd ln fm fw, zt_W q az (upd t1 ((8 * k) + i) (nI i)) fo]) hx hb hK hP hD hS 1 0 (j := ((8 * k) + i)) rfl rfl (by omega) (by decide) d_Z_move_38 rfl (fun H locs hP hD hS => ?_)
          refine lv_iinc (v := nI (i + 1)) (lv' := [(1, .int (nI (i + 1))), (0, .ref (az 0))]) hx hb d_Z_move_39 hl (k := 1) rfl (nI_1 i) (by decide) rfl (fun ls hl => ?_)
          refine lv_goto (tgt := 18) hx hb d_Z_move_42 (by decide) ?_
          exact ih (i + 1) (upd t1 (8 * k + i) (nI i)) (by omega) (by omega) (zm_fr h1) (fun j hj => (pk_un (by omega)).trans (h2 j hj)) _ _ _ hP hD hS (lv_sub hl [1, 0] rfl)
    exact loop 9 0 to (by omega) (by omega) (fun p h0 => absurd h0 (by omega)) (fun _ _ => rfl) _ _ _ hP hD hS (lv_sub hl [1, 0] rfl)
  · skip
    subst hc
    refine lv_iconst (v := (-1)) hx hb d_Z_move_14 (by decide) ?_
    exact wz_iret hx hb hr hlocks hK hP hD hS d_Z_move_15 (Or.inl ⟨rfl, rfl, rfl⟩)
def po_Z_orderOf (q : wz_Q) (az : Nat → Nat) (th : Int32) (n k : Nat) (kn bk : Int32) (sz : Nat) (fd : Int32) (ln : Nat) (fm : Int32) (fw : Int64) (to fo : Nat → Int32) (o : Nat) (sg tu : Nat → Nat) : Int32 → wz_G → Prop := fun v w => w = [zo_W q az th n k kn bk sz fd ln fm fw, zt_W q az to fo] ∧ ∃ o', v = nI o' ∧ pz_od n sg o'
set_option maxHeartbeats 4000000 in
set_option maxRecDepth 100000 in
/-- how often until all is as it was -/
theorem c_Z_orderOf (l : Launch) (D : va_G) (q : wz_Q) (az : Nat → Nat) (th : Int32) (n k : Nat) (kn bk : Int32) (sz : Nat) (fd : Int32) (ln : Nat) (fm : Int32) (fw : Int64) (to fo : Nat → Int32) (o : Nat) (sg tu : Nat → Nat) (hn : n ≤ 8) (ho : o < 6) (hs : ∀ p, p < n → to (8 * o + p) = nI (sg p)) (hpm : pz_perm n sg tu) : wz_Mi l y_Z_orderOf ws_Z_orderOf ({ frames := 0, cells := 0, slots := 0, locals := 0 } : Room) D q ([.ref (az 0), .int (nI o)] : List Value) [zo_W q az th n k kn bk sz fd ln fm fw, zt_W q az to fo] (po_Z_orderOf q az th n k kn bk sz fd ln fm fw to fo o sg tu) 0 0 := by
  intro sz9
  refine wz_enter (cc := b_Z_orderOf) (maxL := 7) (ret := (some .int)) (Qc := fun A => (va_Qi (po_Z_orderOf q az th n k kn bk sz fd ln fm fw to fo o sg tu) (wz_At D q A) A)) (by decide) (Nat.le_of_ble_eq_true rfl) ?_
  intro p e s m below meth c A ls C hP hD hS hl
  obtain ⟨hx, hb, hr, hml, hlocks, hown, hts, hN, hK, hA, hnm⟩ := C
  have hown : s.vm.findClass "TwoEndSearchModel" = some m.cls := hown
  have hl : lv_has ls 7 [(0, .ref (az 0)), (1, .int (nI o))] := hl
  obtain ⟨o1, ho1⟩ := pz_od_ex hpm hn
  have ho15 := ho1.2.1
  refine lv_iconst (v := nI 1) hx hb d_Z_orderOf_0 (by decide) ?_
  refine lv_istore_n (lv' := [(2, .int (nI 1)), (0, .ref (az 0)), (1, .int (nI o))]) hx hb d_Z_orderOf_1 rfl hl (by decide) rfl (fun ls hl => ?_)
  have loop : ∀ (d : Nat) (t : Nat), 0 < t → t ≤ o1 → o1 + 1 ≤ t + d → (∀ i, 0 < i → i < t → ¬ ∀ p, p < n → pz_it sg i p = p) → ∀ (H : Heap) (locs : List Loc) (ls : Array Slot), va_P D vwCl ([zo_W q az th n k kn bk sz fd ln fm fw, zt_W q az to fo] : wz_G).flatten H → va_D A ([zo_W q az th n k kn bk sz fd ln fm fw, zt_W q az to fo] : wz_G).flatten → va_S A s.heap H locs → lv_has ls 7 [(0, .ref (az 0)), (1, .int (nI o)), (2, .int (nI t))] → W p l e ({ frames := 0, cells := 0, slots := 0, locals := 0 } : Room) s m ([.ref (az 0), .int (nI o)] : List Value).toArray below meth c H locs 0 0 (MQ below (va_Qi (po_Z_orderOf q az th n k kn bk sz fd ln fm fw to fo o sg tu) (wz_At D q A) A) ([.ref (az 0), .int (nI o)] : List Value).toArray s 0 0 A) (F0 m 2 ls []) := by
    intro d
    induction d with
    | zero =>
      intro t ht0 ht hd hno
      omega
    | succ d ih =>
      intro t ht0 ht hd hno H locs ls hP hD hS hl
      refine lv_iconst (v := nI 1) hx hb d_Z_orderOf_2 (by decide) ?_
      refine lv_istore_n (lv' := [(3, .int (nI 1)), (0, .ref (az 0)), (1, .int (nI o)), (2, .int (nI t))]) hx hb d_Z_orderOf_3 rfl hl (by decide) rfl (fun ls hl => ?_)
      refine lv_iconst (v := nI 0) hx hb d_Z_orderOf_4 (by decide) ?_
      refine lv_istore (lv' := [(4, .int (nI 0)), (3, .int (nI 1)), (0, .ref (az 0)), (1, .int (nI o)), (2, .int (nI t))]) hx hb d_Z_orderOf_5 hl (by decide) rfl (fun ls hl => ?_)
      have loop2 : ∀ (d2 : Nat) (y : Nat) (a9 : Bool), y ≤ n → n + 1 ≤ y + d2 → (a9 = true → ∀ p, p < y → pz_it sg t p = p) → (a9 = false → ¬ ∀ p, p < n → pz_it sg t p = p) → ∀ (H : Heap) (locs : List Loc) (ls : Array Slot), va_P D vwCl ([zo_W q az th n k kn bk sz fd ln fm fw, zt_W q az to fo] : wz_G).flatten H → va_D A ([zo_W q az th n k kn bk sz fd ln fm fw, zt_W q az to fo] : wz_G).flatten → va_S A s.heap H locs → lv_has ls 7 [(0, .ref (az 0)), (1, .int (nI o)), (2, .int (nI t)), (3, .int (bl_b a9)), (4, .int (nI y))] → W p l e ({ frames := 0, cells := 0, slots := 0, locals := 0 } : Room) s m ([.ref (az 0), .int (nI o)] : List Value).toArray below meth c H locs 0 0 (MQ below (va_Qi (po_Z_orderOf q az th n k kn bk sz fd ln fm fw to fo o sg tu) (wz_At D q A) A) ([.ref (az 0), .int (nI o)] : List Value).toArray s 0 0 A) (F0 m 7 ls []) := by
        intro d2
        induction d2 with
        | zero =>
          intro y a9 hy hd2 ha hb9
          omega
        | succ d2 ih2 =>
          intro y a9 hy hd2 ha hb9 H locs ls hP hD hS hl
          have hfin : ∀ a9 : Bool, (a9 = true → ∀ p, p < n → pz_it sg t p = p) → (a9 = false → ¬ ∀ p, p < n → pz_it sg t p = p) → ∀ (H : Heap) (locs : List Loc) (ls : Array Slot) (y : Int32), va_P D vwCl ([zo_W q az th n k kn bk sz fd ln fm fw, zt_W q az to fo] : wz_G).flatten H → va_D A ([zo_W q az th n k kn bk sz fd ln fm fw, zt_W q az to fo] : wz_G).flatten → va_S A s.heap H locs → lv_has ls 7 [(0, .ref (az 0)), (1, .int (nI o)), (2, .int (nI t)), (3, .int (bl_b a9)), (4, .int y)] → W p l e ({ frames := 0, cells := 0, slots := 0, locals := 0 } : Room) s m ([.ref (az 0), .int (nI o)] : List Value).toArray below meth c H locs 0 0 (MQ below (va_Qi (po_Z_orderOf q az th n k kn bk sz fd ln fm fw to fo o sg tu) (wz_At D q A) A) ([.ref (az 0), .int (nI o)] : List Value).toArray s 0 0 A) (F0 m 72 ls []) := by
            intro a9 ha hb9 H locs ls y hP hD hS hl
            refine lv_iload_n hx hb d_Z_orderOf_72 rfl (lv_at hl 3 rfl) ?_
            refine lv_if_eq (tgt := 78) hx hb d_Z_orderOf_73 (by decide) (fun hc => ?_) (fun hc => ?_)
            · skip
              have ha9 : a9 = false := by
                cases a9 with
                | true => exact absurd hc (by decide)
                | false => rfl
              have hto : t ≠ o1 := fun q => hb9 ha9 (q ▸ ho1.2.2.1)
              refine lv_iinc (v := nI (t + 1)) (lv' := [(2, .int (nI (t + 1))), (0, .ref (az 0)), (1, .int (nI o)), (3, .int (bl_b a9)), (4, .int y)]) hx hb d_Z_orderOf_78 hl (k := 2) rfl (nI_1 t) (by decide) rfl (fun ls hl => ?_)
              refine lv_goto (tgt := 2) hx hb d_Z_orderOf_81 (by decide) ?_
              exact ih (t + 1) (by omega) (by omega) (by omega) (fun i h0 h1 => by
            by_cases e0 : i = t
            · subst e0; exact hb9 ha9
            · exact hno i h0 (by omega)) _ _ _ hP hD hS (lv_sub hl [1, 2, 0] rfl)
            · skip
              have ha9 : a9 = true := by
                cases a9 with
                | false => exact absurd rfl hc
                | true => rfl
              refine lv_iload_n hx hb d_Z_orderOf_76 rfl (lv_at hl 2 rfl) ?_
              exact wz_iret hx hb hr hlocks hK hP hD hS d_Z_orderOf_77 ⟨rfl, t, rfl, by omega, by omega, ha ha9, hno⟩
          refine lv_iload hx hb d_Z_orderOf_7 (lv_at hl 4 rfl) ?_
          refine lv_aload_n hx hb d_Z_orderOf_9 rfl (lv_at hl 0 rfl) ?_
          refine wz_get (v := .int (nI n)) (T := T_Z) (N := 22) hx hb hts i_Z hown hK hP 0 0 rfl rfl rfl 1 (by decide) (hts _ kw_466) rfl rfl d_Z_orderOf_10 ?_
          refine wz_ge (tgt := 72) hx hb d_Z_orderOf_13 (by decide) (by omega) (by omega) (fun hc => ?_) (fun hc => ?_)
          · skip
            have hyn : y = n := by omega
            subst hyn
            exact hfin a9 ha hb9 _ _ _ _ hP hD hS (lv_sub hl [0, 1, 2, 3, 4] rfl)
          · skip
            refine lv_iload_n hx hb d_Z_orderOf_16 rfl (lv_at hl 3 rfl) ?_
            refine lv_if_eq (tgt := 72) hx hb d_Z_orderOf_17 (by decide) (fun hc2 => ?_) (fun hc2 => ?_)
            · skip
              have ha9 : a9 = false := by
                cases a9 with
                | true => exact absurd hc2 (by decide)
                | false => rfl
              exact hfin a9 (fun e0 => by rw [ha9] at e0; cases e0) hb9 _ _ _ _ hP hD hS (lv_sub hl [0, 1, 2, 3, 4] rfl)
            · skip
              have ha9 : a9 = true := by
                cases a9 with
                | false => exact absurd rfl hc2
                | true => rfl
              subst ha9
              refine lv_iload hx hb d_Z_orderOf_20 (lv_at hl 4 rfl) ?_
              refine lv_istore (lv' := [(5, .int (nI y)), (0, .ref (az 0)), (1, .int (nI o)), (2, .int (nI t)), (3, .int (bl_b true)), (4, .int (nI y))]) hx hb d_Z_orderOf_22 hl (by decide) rfl (fun ls hl => ?_)
              refine lv_iconst (v := nI 0) hx hb d_Z_orderOf_24 (by decide) ?_
              refine lv_istore (lv' := [(6, .int (nI 0)), (5, .int (nI y)), (0, .ref (az 0)), (1, .int (nI o)), (2, .int (nI t)), (3, .int (bl_b true)), (4, .int (nI y))]) hx hb d_Z_orderOf_25 hl (by decide) rfl (fun ls hl => ?_)
              have loop3 : ∀ (d3 : Nat) (j : Nat), j ≤ t → t + 1 ≤ j + d3 → ∀ (H : Heap) (locs : List Loc) (ls : Array Slot), va_P D vwCl ([zo_W q az th n k kn bk sz fd ln fm fw, zt_W q az to fo] : wz_G).flatten H → va_D A ([zo_W q az th n k kn bk sz fd ln fm fw, zt_W q az to fo] : wz_G).flatten → va_S A s.heap H locs → lv_has ls 7 [(0, .ref (az 0)), (1, .int (nI o)), (2, .int (nI t)), (3, .int (bl_b true)), (4, .int (nI y)), (5, .int (nI (pz_it sg j y))), (6, .int (nI j))] → W p l e ({ frames := 0, cells := 0, slots := 0, locals := 0 } : Room) s m ([.ref (az 0), .int (nI o)] : List Value).toArray below meth c H locs 0 0 (MQ below (va_Qi (po_Z_orderOf q az th n k kn bk sz fd ln fm fw to fo o sg tu) (wz_At D q A) A) ([.ref (az 0), .int (nI o)] : List Value).toArray s 0 0 A) (F0 m 27 ls []) := by
                intro d3
                induction d3 with
                | zero =>
                  intro j hj hd3
                  omega
                | succ d3 ih3 =>
                  intro j hj hd3 H locs ls hP hD hS hl
                  have hjl := pz_it_lt (fun p hp => (hpm p hp).1) j hc
                  refine lv_iload hx hb d_Z_orderOf_27 (lv_at hl 6 rfl) ?_
                  refine lv_iload_n hx hb d_Z_orderOf_29 rfl (lv_at hl 2 rfl) ?_
                  refine wz_ge (tgt := 53) hx hb d_Z_orderOf_30 (by decide) (by omega) (by omega) (fun hc3 => ?_) (fun hc3 => ?_)
                  · skip
                    have hjt : t = j := by omega
                    subst hjt
                    refine lv_iload hx hb d_Z_orderOf_53 (lv_at hl 5 rfl) ?_
                    refine lv_iload hx hb d_Z_orderOf_55 (lv_at hl 4 rfl) ?_
                    refine wz_ne (tgt := 64) hx hb d_Z_orderOf_57 (by decide) (by omega) (by omega) (fun hc4 => ?_) (fun hc4 => ?_)
                    · skip
                      refine lv_iconst (v := nI 0) hx hb d_Z_orderOf_64 (by decide) ?_
                      refine lv_istore_n (lv' := [(3, .int (nI 0)), (0, .ref (az 0)), (1, .int (nI o)), (2, .int (nI t)), (4, .int (nI y)), (5, .int (nI (pz_it sg t y))), (6, .int (nI t))]) hx hb d_Z_orderOf_65 rfl hl (by decide) rfl (fun ls hl => ?_)
                      refine lv_iinc (v := nI (y + 1)) (lv' := [(4, .int (nI (y + 1))), (3, .int (nI 0)), (0, .ref (az 0)), (1, .int (nI o)), (2, .int (nI t)), (5, .int (nI (pz_it sg t y))), (6, .int (nI t))]) hx hb d_Z_orderOf_66 hl (k := 4) rfl (nI_1 y) (by decide) rfl (fun ls hl => ?_)
                      refine lv_goto (tgt := 7) hx hb d_Z_orderOf_69 (by decide) ?_
                      exact ih2 (y + 1) false (by omega) (by omega) (fun e0 => by cases e0) (fun _ q => hc4 (q y hc)) _ _ _ hP hD hS (lv_sub hl [2, 3, 4, 1, 0] rfl)
                    · skip
                      refine lv_iconst (v := nI 1) hx hb d_Z_orderOf_60 (by decide) ?_
                      refine lv_goto (tgt := 65) hx hb d_Z_orderOf_61 (by decide) ?_
                      refine lv_istore_n (lv' := [(3, .int (nI 1)), (0, .ref (az 0)), (1, .int (nI o)), (2, .int (nI t)), (4, .int (nI y)), (5, .int (nI (pz_it sg t y))), (6, .int (nI t))]) hx hb d_Z_orderOf_65 rfl hl (by decide) rfl (fun ls hl => ?_)
                      refine lv_iinc (v := nI (y + 1)) (lv' := [(4, .int (nI (y + 1))), (3, .int (nI 1)), (0, .ref (az 0)), (1, .int (nI o)), (2, .int (nI t)), (5, .int (nI (pz_it sg t y))), (6, .int (nI t))]) hx hb d_Z_orderOf_66 hl (k := 4) rfl (nI_1 y) (by decide) rfl (fun ls hl => ?_)
                      refine lv_goto (tgt := 7) hx hb d_Z_orderOf_69 (by decide) ?_
                      exact ih2 (y + 1) true (by omega) (by omega) (fun _ p hp => by
                by_cases e0 : p = y
                · subst e0; exact hc4
                · exact ha rfl p (by omega)) (fun e0 => by cases e0) _ _ _ hP hD hS (lv_sub hl [2, 3, 4, 1, 0] rfl)
                  · skip
                    refine lv_aload_n hx hb d_Z_orderOf_33 rfl (lv_at hl 0 rfl) ?_
                    refine wz_get (v := .ref (az 1)) (T := T_Z) (N := 22) hx hb hts i_Z hown hK hP 0 0 rfl rfl rfl 3 (by decide) (hts _ kw_468) rfl rfl d_Z_orderOf_34 ?_
                    refine lv_bipush (v := nI 8) hx hb d_Z_orderOf_37 (by decide) ?_
                    refine lv_iload_n hx hb d_Z_orderOf_39 rfl (lv_at hl 1 rfl) ?_
                    refine lv_imul hx hb d_Z_orderOf_40 ?_
                    refine wz_topi (y := nI (8 * o)) (pk_mul 8 o) ?_
                    refine lv_iload hx hb d_Z_orderOf_41 (lv_at hl 5 rfl) ?_
                    refine lv_iadd hx hb d_Z_orderOf_43 ?_
                    refine wz_topi (y := nI ((8 * o) + (pz_it sg j y))) (nI_add (8 * o) (pz_it sg j y)) ?_
                    refine wz_iald hx hb hK hP 1 0 (j := ((8 * o) + (pz_it sg j y))) rfl rfl (by omega) (by decide) d_Z_orderOf_44 ?_
                    refine wz_topi (y := nI (pz_it sg (j + 1) y)) (hs _ hjl) ?_
                    refine lv_istore (lv' := [(5, .int (nI (pz_it sg (j + 1) y))), (0, .ref (az 0)), (1, .int (nI o)), (2, .int (nI t)), (3, .int (bl_b true)), (4, .int (nI y)), (6, .int (nI j))]) hx hb d_Z_orderOf_45 hl (by decide) rfl (fun ls hl => ?_)
                    refine lv_iinc (v := nI (j + 1)) (lv' := [(6, .int (nI (j + 1))), (5, .int (nI (pz_it sg (j + 1) y))), (0, .ref (az 0)), (1, .int (nI o)), (2, .int (nI t)), (3, .int (bl_b true)), (4, .int (nI y))]) hx hb d_Z_orderOf_47 hl (k := 6) rfl (nI_1 j) (by decide) rfl (fun ls hl => ?_)
                    refine lv_goto (tgt := 27) hx hb d_Z_orderOf_50 (by decide) ?_
                    exact ih3 (j + 1) (by omega) (by omega) _ _ _ hP hD hS (lv_sub hl [2, 3, 4, 5, 6, 1, 0] rfl)
              exact loop3 (t + 1) 0 (by omega) (by omega) _ _ _ hP hD hS (lv_sub hl [2, 3, 4, 5, 6, 1, 0] rfl)
      exact loop2 (n + 1) 0 true (by omega) (by omega) (fun _ p h0 => absurd h0 (by omega)) (fun e0 => by cases e0) _ _ _ hP hD hS (lv_sub hl [2, 3, 4, 1, 0] rfl)
  exact loop (o1 + 1) 1 (by omega) (by have := ho1.1; omega) (by omega) (fun i h0 h1 => absurd h1 (by omega)) _ _ _ hP hD hS (lv_sub hl [1, 2, 0] rfl)
def po_Z_cycle (q : wz_Q) (az : Nat → Nat) (th : Int32) (n k : Nat) (kn bk : Int32) (sz : Nat) (fd : Int32) (ln : Nat) (fm : Int32) (fw : Int64) (to fo : Nat → Int32) (x y z : Int32) (sg tu : Nat → Nat → Nat) (od : Nat → Nat) : Int32 → wz_G → Prop := fun v w => (v = 0 ∧ w = [zo_W q az (nI 0) n k kn bk sz fd ln fm fw, zt_W q az to fo] ∧ ¬ ∃ mo fr t, mv_can n k sg x y z mo fr t) ∨ (v = 1 ∧ ∃ (mo fr t o' : Nat) (to' fo' : Nat → Int32), mv_can n k sg x y z mo fr t ∧ pz_od n (pz_cyc (sg mo) fr t) o' ∧ w = [zo_W q az (nI 0) n k (-1) bk sz (nI 0) ln fm fw, zt_W q az to' fo'] ∧ zm_ok n k to' fo' (pz_up sg mo (pz_cyc (sg mo) fr t)) (pz_up tu mo (pz_cyi (sg mo) (tu mo) fr t)) (pz_up od mo o'))
set_option maxHeartbeats 4000000 in
set_option maxRecDepth 100000 in
/-- a move is lengthened -/
theorem c_Z_cycle (l : Launch) (D : va_G) (q : wz_Q) (az : Nat → Nat) (th : Int32) (n k : Nat) (kn bk : Int32) (sz : Nat) (fd : Int32) (ln : Nat) (fm : Int32) (fw : Int64) (to fo : Nat → Int32) (x y z : Int32) (sg tu : Nat → Nat → Nat) (od : Nat → Nat) (hn : n ≤ 8) (hk : k ≤ 6) (hok : zm_ok n k to fo sg tu od) : wz_Mi l y_Z_cycle ws_Z_cycle ({ frames := 1, cells := 0, slots := 0, locals := 26 } : Room) D q ([.ref (az 0), .int x, .int y, .int z] : List Value) [zo_W q az th n k kn bk sz fd ln fm fw, zt_W q az to fo] (po_Z_cycle q az th n k kn bk sz fd ln fm fw to fo x y z sg tu od) 0 0 := by
  intro sz9
  refine wz_enter (cc := b_Z_cycle) (maxL := 4) (ret := (some .boolean)) (Qc := fun A => (va_Qi (po_Z_cycle q az th n k kn bk sz fd ln fm fw to fo x y z sg tu od) (wz_At D q A) A)) (by decide) (Nat.le_of_ble_eq_true rfl) ?_
  intro p e s m below meth c A ls C hP hD hS hl
  obtain ⟨hx, hb, hr, hml, hlocks, hown, hts, hN, hK, hA, hnm⟩ := C
  have hown : s.vm.findClass "TwoEndSearchModel" = some m.cls := hown
  have hl : lv_has ls 4 [(0, .ref (az 0)), (1, .int x), (2, .int y), (3, .int z)] := hl
  refine lv_aload_n hx hb d_Z_cycle_0 rfl (lv_at hl 0 rfl) ?_
  refine lv_iconst (v := nI 0) hx hb d_Z_cycle_1 (by decide) ?_
  refine wz_put (gs' := [zo_W q az (nI 0) n k kn bk sz fd ln fm fw, zt_W q az to fo]) (v := .int (nI 0)) (T := T_Z) (N := 22) hx hb hts i_Z t_Z t_Z_ok n_Z hown hK hP hD hS 0 0 rfl rfl rfl 0 (by decide) (hts _ kw_465) rfl rfl (ty := t_Z 0) (by decide +kernel) rfl rfl (Nat.le_of_ble_eq_true rfl) d_Z_cycle_2 rfl (fun H locs hP hD hS => ?_)
  refine lv_aload_n hx hb d_Z_cycle_5 rfl (lv_at hl 0 rfl) ?_
  refine lv_iload_n hx hb d_Z_cycle_6 rfl (lv_at hl 1 rfl) ?_
  have hQ := wz_split (n := 2) (gc := [zo_W q az (nI 0) n k kn bk sz fd ln fm fw]) (gr := [zt_W q az to fo]) [0] [1] rfl (by decide) rfl rfl hP hD
  refine wz_calli (va_runV (As := [.int x]) (rest := []) ⟨hx, hb, hml, hown, hts⟩ (c_Z_isMove l D q az (nI 0) n k kn bk sz fd ln fm fw x hk _) (cwV 1 hts (wz_goodV kw_539 kw_541 kw_18 kw_33 kw_542) rfl rfl rfl (by decide +kernel) ⟨Nat.le_of_ble_eq_true rfl, Nat.le_of_ble_eq_true rfl⟩) (wz_preV (gi := 0) (k := 0) hN hK hQ wz_L_ok rfl rfl rfl) rfl rfl hl.1 rfl (lv_room (Nat.le_of_ble_eq_true rfl)) d_Z_cycle_7 ⟨Nat.le_of_ble_eq_true rfl, Nat.le_of_ble_eq_true rfl⟩) hQ hS hA (fun v_7 gx H locs hp0 hP hD hS => ?_)
  obtain ⟨rfl, hp0⟩ := hp0
  obtain ⟨hP, hD⟩ := wz_ord (n := 2) (gs' := [zo_W q az (nI 0) n k kn bk sz fd ln fm fw, zt_W q az to fo]) [0, 1] rfl (by decide) rfl hP hD
  refine lv_if_eq (tgt := 49) hx hb d_Z_cycle_10 (by decide) (fun hc => ?_) (fun hc => ?_)
  · skip
    refine lv_iconst (v := nI 0) hx hb d_Z_cycle_49 (by decide) ?_
    exact wz_zret hx hb hr hlocks hK hP hD hS d_Z_cycle_50 (by first | exact Or.inl rfl | exact Or.inr rfl) (Or.inl ⟨rfl, rfl, fun ⟨mo, fr, t, q⟩ => wz_bit_0 hp0 hc ⟨mo, q.1, q.2.2.2.1⟩⟩)
  · skip
    obtain ⟨mo, hmo, rfl⟩ := wz_bit_1 hp0 hc
    refine lv_aload_n hx hb d_Z_cycle_13 rfl (lv_at hl 0 rfl) ?_
    refine lv_iload_n hx hb d_Z_cycle_14 rfl (lv_at hl 2 rfl) ?_
    have hQ := wz_split (n := 2) (gc := [zo_W q az (nI 0) n k kn bk sz fd ln fm fw]) (gr := [zt_W q az to fo]) [0] [1] rfl (by decide) rfl rfl hP hD
    refine wz_calli (va_runV (As := [.int y]) (rest := []) ⟨hx, hb, hml, hown, hts⟩ (c_Z_isPlace l D q az (nI 0) n k kn bk sz fd ln fm fw y hn _) (cwV 1 hts (wz_goodV kw_543 kw_545 kw_19 kw_33 kw_546) rfl rfl rfl (by decide +kernel) ⟨Nat.le_of_ble_eq_true rfl, Nat.le_of_ble_eq_true rfl⟩) (wz_preV (gi := 0) (k := 0) hN hK hQ wz_L_ok rfl rfl rfl) rfl rfl hl.1 rfl (lv_room (Nat.le_of_ble_eq_true rfl)) d_Z_cycle_15 ⟨Nat.le_of_ble_eq_true rfl, Nat.le_of_ble_eq_true rfl⟩) hQ hS hA (fun v_15 gx H locs hp1 hP hD hS => ?_)
    obtain ⟨rfl, hp1⟩ := hp1
    obtain ⟨hP, hD⟩ := wz_ord (n := 2) (gs' := [zo_W q az (nI 0) n k kn bk sz fd ln fm fw, zt_W q az to fo]) [0, 1] rfl (by decide) rfl hP hD
    refine lv_if_eq (tgt := 49) hx hb d_Z_cycle_18 (by decide) (fun hc1 => ?_) (fun hc1 => ?_)
    · skip
      refine lv_iconst (v := nI 0) hx hb d_Z_cycle_49 (by decide) ?_
      exact wz_zret hx hb hr hlocks hK hP hD hS d_Z_cycle_50 (by first | exact Or.inl rfl | exact Or.inr rfl) (Or.inl ⟨rfl, rfl, fun ⟨mo, fr, t, q⟩ => wz_bit_0 hp1 hc1 ⟨fr, q.2.1, q.2.2.2.2.1⟩⟩)
    · skip
      obtain ⟨fr, hfr, rfl⟩ := wz_bit_1 hp1 hc1
      refine lv_aload_n hx hb d_Z_cycle_21 rfl (lv_at hl 0 rfl) ?_
      refine lv_iload_n hx hb d_Z_cycle_22 rfl (lv_at hl 3 rfl) ?_
      have hQ := wz_split (n := 2) (gc := [zo_W q az (nI 0) n k kn bk sz fd ln fm fw]) (gr := [zt_W q az to fo]) [0] [1] rfl (by decide) rfl rfl hP hD
      refine wz_calli (va_runV (As := [.int z]) (rest := []) ⟨hx, hb, hml, hown, hts⟩ (c_Z_isPlace l D q az (nI 0) n k kn bk sz fd ln fm fw z hn _) (cwV 1 hts (wz_goodV kw_543 kw_545 kw_19 kw_33 kw_546) rfl rfl rfl (by decide +kernel) ⟨Nat.le_of_ble_eq_true rfl, Nat.le_of_ble_eq_true rfl⟩) (wz_preV (gi := 0) (k := 0) hN hK hQ wz_L_ok rfl rfl rfl) rfl rfl hl.1 rfl (lv_room (Nat.le_of_ble_eq_true rfl)) d_Z_cycle_23 ⟨Nat.le_of_ble_eq_true rfl, Nat.le_of_ble_eq_true rfl⟩) hQ hS hA (fun v_23 gx H locs hp2 hP hD hS => ?_)
      obtain ⟨rfl, hp2⟩ := hp2
      obtain ⟨hP, hD⟩ := wz_ord (n := 2) (gs' := [zo_W q az (nI 0) n k kn bk sz fd ln fm fw, zt_W q az to fo]) [0, 1] rfl (by decide) rfl hP hD
      refine lv_if_eq (tgt := 49) hx hb d_Z_cycle_26 (by decide) (fun hc2 => ?_) (fun hc2 => ?_)
      · skip
        refine lv_iconst (v := nI 0) hx hb d_Z_cycle_49 (by decide) ?_
        exact wz_zret hx hb hr hlocks hK hP hD hS d_Z_cycle_50 (by first | exact Or.inl rfl | exact Or.inr rfl) (Or.inl ⟨rfl, rfl, fun ⟨mo, fr, t, q⟩ => wz_bit_0 hp2 hc2 ⟨t, q.2.2.1, q.2.2.2.2.2.1⟩⟩)
      · skip
        obtain ⟨t, ht, rfl⟩ := wz_bit_1 hp2 hc2
        have hO := hok mo hmo
        have hst := (hO.1 t ht).1
        have hsf := (hO.1 fr hfr).1
        refine lv_iload_n hx hb d_Z_cycle_29 rfl (lv_at hl 2 rfl) ?_
        refine lv_iload_n hx hb d_Z_cycle_30 rfl (lv_at hl 3 rfl) ?_
        refine wz_eq (tgt := 49) hx hb d_Z_cycle_31 (by decide) (by omega) (by omega) (fun hc3 => ?_) (fun hc3 => ?_)
        · skip
          refine lv_iconst (v := nI 0) hx hb d_Z_cycle_49 (by decide) ?_
          exact wz_zret hx hb hr hlocks hK hP hD hS d_Z_cycle_50 (by first | exact Or.inl rfl | exact Or.inr rfl) (Or.inl ⟨rfl, rfl, fun ⟨mo', fr', t', q⟩ => by
          obtain rfl := (nI_eq (by have := q.2.1; omega) (by omega)).mp q.2.2.2.2.1.symm
          obtain rfl := (nI_eq (by have := q.2.2.1; omega) (by omega)).mp q.2.2.2.2.2.1.symm
          exact q.2.2.2.2.2.2.1 hc3⟩)
        · skip
          refine lv_aload_n hx hb d_Z_cycle_34 rfl (lv_at hl 0 rfl) ?_
          refine wz_get (v := .ref (az 1)) (T := T_Z) (N := 22) hx hb hts i_Z hown hK hP 0 0 rfl rfl rfl 3 (by decide) (hts _ kw_468) rfl rfl d_Z_cycle_35 ?_
          refine lv_bipush (v := nI 8) hx hb d_Z_cycle_38 (by decide) ?_
          refine lv_iload_n hx hb d_Z_cycle_40 rfl (lv_at hl 1 rfl) ?_
          refine lv_imul hx hb d_Z_cycle_41 ?_
          refine wz_topi (y := nI (8 * mo)) (pk_mul 8 mo) ?_
          refine lv_iload_n hx hb d_Z_cycle_42 rfl (lv_at hl 3 rfl) ?_
          refine lv_iadd hx hb d_Z_cycle_43 ?_
          refine wz_topi (y := nI ((8 * mo) + t)) (nI_add (8 * mo) t) ?_
          refine wz_iald hx hb hK hP 1 0 (j := ((8 * mo) + t)) rfl rfl (by omega) (by decide) d_Z_cycle_44 ?_
          refine wz_topi (y := nI (sg mo t)) (hO.2.2.2 t ht) ?_
          refine lv_iload_n hx hb d_Z_cycle_45 rfl (lv_at hl 3 rfl) ?_
          refine wz_eq (tgt := 51) hx hb d_Z_cycle_46 (by decide) (by omega) (by omega) (fun hc4 => ?_) (fun hc4 => ?_)
          · skip
            refine lv_aload_n hx hb d_Z_cycle_51 rfl (lv_at hl 0 rfl) ?_
            refine wz_get (v := .ref (az 1)) (T := T_Z) (N := 22) hx hb hts i_Z hown hK hP 0 0 rfl rfl rfl 3 (by decide) (hts _ kw_468) rfl rfl d_Z_cycle_52 ?_
            refine lv_bipush (v := nI 8) hx hb d_Z_cycle_55 (by decide) ?_
            refine lv_iload_n hx hb d_Z_cycle_57 rfl (lv_at hl 1 rfl) ?_
            refine lv_imul hx hb d_Z_cycle_58 ?_
            refine wz_topi (y := nI (8 * mo)) (pk_mul 8 mo) ?_
            refine lv_iload_n hx hb d_Z_cycle_59 rfl (lv_at hl 3 rfl) ?_
            refine lv_iadd hx hb d_Z_cycle_60 ?_
            refine wz_topi (y := nI ((8 * mo) + t)) (nI_add (8 * mo) t) ?_
            refine lv_aload_n hx hb d_Z_cycle_61 rfl (lv_at hl 0 rfl) ?_
            refine wz_get (v := .ref (az 1)) (T := T_Z) (N := 22) hx hb hts i_Z hown hK hP 0 0 rfl rfl rfl 3 (by decide) (hts _ kw_468) rfl rfl d_Z_cycle_62 ?_
            refine lv_bipush (v := nI 8) hx hb d_Z_cycle_65 (by decide) ?_
            refine lv_iload_n hx hb d_Z_cycle_67 rfl (lv_at hl 1 rfl) ?_
            refine lv_imul hx hb d_Z_cycle_68 ?_
            refine wz_topi (y := nI (8 * mo)) (pk_mul 8 mo) ?_
            refine lv_iload_n hx hb d_Z_cycle_69 rfl (lv_at hl 2 rfl) ?_
            refine lv_iadd hx hb d_Z_cycle_70 ?_
            refine wz_topi (y := nI ((8 * mo) + fr)) (nI_add (8 * mo) fr) ?_
            refine wz_iald hx hb hK hP 1 0 (j := ((8 * mo) + fr)) rfl rfl (by omega) (by decide) d_Z_cycle_71 ?_
            refine wz_topi (y := nI (sg mo fr)) (hO.2.2.2 fr hfr) ?_
            refine wz_iast (gs' := [zo_W q az (nI 0) n k kn bk sz fd ln fm fw, zt_W q az (upd to ((8 * mo) + t) (nI (sg mo fr))) fo]) hx hb hK hP hD hS 1 0 (j := ((8 * mo) + t)) rfl rfl (by omega) (by decide) d_Z_cycle_72 rfl (fun H locs hP hD hS => ?_)
            refine lv_aload_n hx hb d_Z_cycle_73 rfl (lv_at hl 0 rfl) ?_
            refine wz_get (v := .ref (az 1)) (T := T_Z) (N := 22) hx hb hts i_Z hown hK hP 0 0 rfl rfl rfl 3 (by decide) (hts _ kw_468) rfl rfl d_Z_cycle_74 ?_
            refine lv_bipush (v := nI 8) hx hb d_Z_cycle_77 (by decide) ?_
            refine lv_iload_n hx hb d_Z_cycle_79 rfl (lv_at hl 1 rfl) ?_
            refine lv_imul hx hb d_Z_cycle_80 ?_
            refine wz_topi (y := nI (8 * mo)) (pk_mul 8 mo) ?_
            refine lv_iload_n hx hb d_Z_cycle_81 rfl (lv_at hl 2 rfl) ?_
            refine lv_iadd hx hb d_Z_cycle_82 ?_
            refine wz_topi (y := nI ((8 * mo) + fr)) (nI_add (8 * mo) fr) ?_
            refine lv_iload_n hx hb d_Z_cycle_83 rfl (lv_at hl 3 rfl) ?_
            refine wz_iast (gs' := [zo_W q az (nI 0) n k kn bk sz fd ln fm fw, zt_W q az (upd (upd to ((8 * mo) + t) (nI (sg mo fr))) ((8 * mo) + fr) (nI t)) fo]) hx hb hK hP hD hS 1 0 (j := ((8 * mo) + fr)) rfl rfl (by omega) (by decide) d_Z_cycle_84 rfl (fun H locs hP hD hS => ?_)
            refine lv_aload_n hx hb d_Z_cycle_85 rfl (lv_at hl 0 rfl) ?_
            refine wz_get (v := .ref (az 2)) (T := T_Z) (N := 22) hx hb hts i_Z hown hK hP 0 0 rfl rfl rfl 4 (by decide) (hts _ kw_469) rfl rfl d_Z_cycle_86 ?_
            refine lv_iload_n hx hb d_Z_cycle_89 rfl (lv_at hl 1 rfl) ?_
            refine lv_aload_n hx hb d_Z_cycle_90 rfl (lv_at hl 0 rfl) ?_
            refine lv_iload_n hx hb d_Z_cycle_91 rfl (lv_at hl 1 rfl) ?_
            obtain ⟨o', ho'⟩ := pz_od_ex (pz_cyc_ok hO.1 hfr ht hc3 hc4) hn
            have hok2 := zm_ok_len hn hok hmo hfr ht hc3 hc4 ho'
            have hO2 := hok2 mo hmo
            rw [pz_up_s, pz_up_s, pz_up_s, pk_us] at hO2
            have hQ := wz_split (n := 2) (gc := [zo_W q az (nI 0) n k kn bk sz fd ln fm fw, zt_W q az (upd (upd to ((8 * mo) + t) (nI (sg mo fr))) ((8 * mo) + fr) (nI t)) fo]) (gr := []) [0, 1] [] rfl (by decide) rfl rfl hP hD
            refine wz_calli (va_runV (As := [.int (nI mo)]) (rest := [.int (nI mo), .ref (az 2)]) ⟨hx, hb, hml, hown, hts⟩ (c_Z_orderOf l D q az (nI 0) n k kn bk sz fd ln fm fw (upd (upd to (8 * mo + t) (nI (sg mo fr))) (8 * mo + fr) (nI t)) fo mo (pz_cyc (sg mo) fr t) (pz_cyi (sg mo) (tu mo) fr t) hn (by omega) hO2.2.2.2 hO2.1 _) (cwV 1 hts (wz_goodV kw_547 kw_549 kw_20 kw_33 kw_550) rfl rfl rfl (by decide +kernel) ⟨Nat.le_of_ble_eq_true rfl, Nat.le_of_ble_eq_true rfl⟩) (wz_preV (gi := 0) (k := 0) hN hK hQ wz_L_ok rfl rfl rfl) rfl rfl hl.1 rfl (lv_room (Nat.le_of_ble_eq_true rfl)) d_Z_cycle_92 ⟨Nat.le_of_ble_eq_true rfl, Nat.le_of_ble_eq_true rfl⟩) hQ hS hA (fun v_92 gx H locs hp hP hD hS => ?_)
            obtain ⟨rfl, o2, rfl, ho2⟩ := hp
            obtain rfl : o2 = o' := pz_od_eq ho2 ho'
            obtain ⟨hP, hD⟩ := wz_ord (n := 2) (gs' := [zo_W q az (nI 0) n k kn bk sz fd ln fm fw, zt_W q az (upd (upd to ((8 * mo) + t) (nI (sg mo fr))) ((8 * mo) + fr) (nI t)) fo]) [0, 1] rfl (by decide) rfl hP hD
            refine wz_iast (gs' := [zo_W q az (nI 0) n k kn bk sz fd ln fm fw, zt_W q az (upd (upd to ((8 * mo) + t) (nI (sg mo fr))) ((8 * mo) + fr) (nI t)) (upd fo mo (nI o2))]) hx hb hK hP hD hS 1 1 (j := mo) rfl rfl (by omega) (by decide) d_Z_cycle_95 rfl (fun H locs hP hD hS => ?_)
            refine lv_aload_n hx hb d_Z_cycle_96 rfl (lv_at hl 0 rfl) ?_
            have hQ := wz_split (n := 2) (gc := [zo_W q az (nI 0) n k kn bk sz fd ln fm fw]) (gr := [zt_W q az (upd (upd to ((8 * mo) + t) (nI (sg mo fr))) ((8 * mo) + fr) (nI t)) (upd fo mo (nI o2))]) [0] [1] rfl (by decide) rfl rfl hP hD
            refine wz_callv (va_runV (As := []) (rest := []) ⟨hx, hb, hml, hown, hts⟩ (c_Z_change l D q az (nI 0) n k kn bk sz fd ln fm fw _) (cwV 0 hts (wz_goodV kw_461 kw_463 kw_17 kw_33 kw_464) rfl rfl rfl (by decide +kernel) ⟨Nat.le_of_ble_eq_true rfl, Nat.le_of_ble_eq_true rfl⟩) (wz_preV (gi := 0) (k := 0) hN hK hQ wz_L_ok rfl rfl rfl) rfl rfl hl.1 rfl (lv_room (Nat.le_of_ble_eq_true rfl)) d_Z_cycle_97 ⟨Nat.le_of_ble_eq_true rfl, Nat.le_of_ble_eq_true rfl⟩) hQ hS hA (fun gx H locs hp hP hD hS => ?_)
            have hp : gx = _ := hp
            subst hp
            obtain ⟨hP, hD⟩ := wz_ord (n := 2) (gs' := [zo_W q az (nI 0) n k (-1) bk sz (nI 0) ln fm fw, zt_W q az (upd (upd to ((8 * mo) + t) (nI (sg mo fr))) ((8 * mo) + fr) (nI t)) (upd fo mo (nI o2))]) [0, 1] rfl (by decide) rfl hP hD
            refine lv_iconst (v := nI 1) hx hb d_Z_cycle_100 (by decide) ?_
            exact wz_zret hx hb hr hlocks hK hP hD hS d_Z_cycle_101 (by first | exact Or.inl rfl | exact Or.inr rfl) (Or.inr ⟨rfl, mo, fr, t, o2, _, _, ⟨hmo, hfr, ht, rfl, rfl, rfl, hc3, hc4⟩, ho2, rfl, hok2⟩)
          · skip
            refine lv_iconst (v := nI 0) hx hb d_Z_cycle_49 (by decide) ?_
            exact wz_zret hx hb hr hlocks hK hP hD hS d_Z_cycle_50 (by first | exact Or.inl rfl | exact Or.inr rfl) (Or.inl ⟨rfl, rfl, fun ⟨mo', fr', t', q⟩ => by
          obtain rfl := (nI_eq (by have := q.1; omega) (by omega)).mp q.2.2.2.1.symm
          obtain rfl := (nI_eq (by have := q.2.2.1; omega) (by omega)).mp q.2.2.2.2.2.1.symm
          exact hc4 q.2.2.2.2.2.2.2⟩)
def po_Z_label (q : wz_Q) (az : Nat → Nat) (th : Int32) (n k : Nat) (kn bk : Int32) (sz : Nat) (fd : Int32) (ln : Nat) (fm : Int32) (fw : Int64) (sb gb : Nat → Int32) (b9 x y : Int32) : Int32 → wz_G → Prop := fun v w => (v = 0 ∧ w = [zo_W q az (nI 0) n k kn bk sz fd ln fm fw, zs_W q az sb gb] ∧ ¬ ∃ p j, p < n ∧ j < 8 ∧ x = nI p ∧ y = nI j) ∨ (v = 1 ∧ ∃ p j, p < n ∧ j < 8 ∧ x = nI p ∧ y = nI j ∧ w = [zo_W q az (nI 0) n k (-1) bk sz (nI 0) ln fm fw, zs_W q az (if b9 = 0 then upd sb p (nI j) else sb) (if b9 = 0 then gb else upd gb p (nI j))])
set_option maxHeartbeats 4000000 in
set_option maxRecDepth 100000 in
/-- a label at a place -/
theorem c_Z_label (l : Launch) (D : va_G) (q : wz_Q) (az : Nat → Nat) (th : Int32) (n k : Nat) (kn bk : Int32) (sz : Nat) (fd : Int32) (ln : Nat) (fm : Int32) (fw : Int64) (sb gb : Nat → Int32) (b9 x y : Int32) (hn : n ≤ 8) : wz_Mi l y_Z_label ws_Z_label ({ frames := 1, cells := 0, slots := 0, locals := 21 } : Room) D q ([.ref (az 0), .int b9, .int x, .int y] : List Value) [zo_W q az th n k kn bk sz fd ln fm fw, zs_W q az sb gb] (po_Z_label q az th n k kn bk sz fd ln fm fw sb gb b9 x y) 0 0 := by
  intro sz9
  refine wz_enter (cc := b_Z_label) (maxL := 4) (ret := (some .boolean)) (Qc := fun A => (va_Qi (po_Z_label q az th n k kn bk sz fd ln fm fw sb gb b9 x y) (wz_At D q A) A)) (by decide) (Nat.le_of_ble_eq_true rfl) ?_
  intro p e s m below meth c A ls C hP hD hS hl
  obtain ⟨hx, hb, hr, hml, hlocks, hown, hts, hN, hK, hA, hnm⟩ := C
  have hown : s.vm.findClass "TwoEndSearchModel" = some m.cls := hown
  have hl : lv_has ls 4 [(0, .ref (az 0)), (1, .int b9), (2, .int x), (3, .int y)] := hl
  refine lv_aload_n hx hb d_Z_label_0 rfl (lv_at hl 0 rfl) ?_
  refine lv_iconst (v := nI 0) hx hb d_Z_label_1 (by decide) ?_
  refine wz_put (gs' := [zo_W q az (nI 0) n k kn bk sz fd ln fm fw, zs_W q az sb gb]) (v := .int (nI 0)) (T := T_Z) (N := 22) hx hb hts i_Z t_Z t_Z_ok n_Z hown hK hP hD hS 0 0 rfl rfl rfl 0 (by decide) (hts _ kw_465) rfl rfl (ty := t_Z 0) (by decide +kernel) rfl rfl (Nat.le_of_ble_eq_true rfl) d_Z_label_2 rfl (fun H locs hP hD hS => ?_)
  refine lv_aload_n hx hb d_Z_label_5 rfl (lv_at hl 0 rfl) ?_
  refine lv_iload_n hx hb d_Z_label_6 rfl (lv_at hl 2 rfl) ?_
  have hQ := wz_split (n := 2) (gc := [zo_W q az (nI 0) n k kn bk sz fd ln fm fw]) (gr := [zs_W q az sb gb]) [0] [1] rfl (by decide) rfl rfl hP hD
  refine wz_calli (va_runV (As := [.int x]) (rest := []) ⟨hx, hb, hml, hown, hts⟩ (c_Z_isPlace l D q az (nI 0) n k kn bk sz fd ln fm fw x hn _) (cwV 1 hts (wz_goodV kw_543 kw_545 kw_19 kw_33 kw_546) rfl rfl rfl (by decide +kernel) ⟨Nat.le_of_ble_eq_true rfl, Nat.le_of_ble_eq_true rfl⟩) (wz_preV (gi := 0) (k := 0) hN hK hQ wz_L_ok rfl rfl rfl) rfl rfl hl.1 rfl (lv_room (Nat.le_of_ble_eq_true rfl)) d_Z_label_7 ⟨Nat.le_of_ble_eq_true rfl, Nat.le_of_ble_eq_true rfl⟩) hQ hS hA (fun v_7 gx H locs hp0 hP hD hS => ?_)
  obtain ⟨rfl, hp0⟩ := hp0
  obtain ⟨hP, hD⟩ := wz_ord (n := 2) (gs' := [zo_W q az (nI 0) n k kn bk sz fd ln fm fw, zs_W q az sb gb]) [0, 1] rfl (by decide) rfl hP hD
  refine lv_if_eq (tgt := 23) hx hb d_Z_label_10 (by decide) (fun hc => ?_) (fun hc => ?_)
  · skip
    refine lv_iconst (v := nI 0) hx hb d_Z_label_23 (by decide) ?_
    exact wz_zret hx hb hr hlocks hK hP hD hS d_Z_label_24 (by first | exact Or.inl rfl | exact Or.inr rfl) (Or.inl ⟨rfl, rfl, fun ⟨p1, j1, q⟩ => wz_bit_0 hp0 hc ⟨p1, q.1, q.2.2.1⟩⟩)
  · skip
    obtain ⟨p1, hp1, rfl⟩ := wz_bit_1 hp0 hc
    refine lv_iload_n hx hb d_Z_label_13 rfl (lv_at hl 3 rfl) ?_
    refine lv_if_lt (tgt := 23) hx hb d_Z_label_14 (by decide) (fun hc1 => ?_) (fun hc1 => ?_)
    · skip
      refine lv_iconst (v := nI 0) hx hb d_Z_label_23 (by decide) ?_
      exact wz_zret hx hb hr hlocks hK hP hD hS d_Z_label_24 (by first | exact Or.inl rfl | exact Or.inr rfl) (Or.inl ⟨rfl, rfl, fun ⟨p2, j1, q⟩ => nI_pos (by have := q.2.1; omega) (q.2.2.2 ▸ hc1)⟩)
    · skip
      refine lv_iload_n hx hb d_Z_label_17 rfl (lv_at hl 3 rfl) ?_
      refine lv_bipush (v := nI 7) hx hb d_Z_label_18 (by decide) ?_
      refine lv_icmp_le (tgt := 25) hx hb d_Z_label_20 (by decide) (fun hc2 => ?_) (fun hc2 => ?_)
      · skip
        obtain ⟨j1, hj1, rfl⟩ := nI_of2 (n := 7) (by decide) hc1 hc2
        refine lv_iload_n hx hb d_Z_label_25 rfl (lv_at hl 1 rfl) ?_
        refine lv_if_eq (tgt := 39) hx hb d_Z_label_26 (by decide) (fun hc3 => ?_) (fun hc3 => ?_)
        · skip
          refine lv_aload_n hx hb d_Z_label_39 rfl (lv_at hl 0 rfl) ?_
          refine wz_get (v := .ref (az 3)) (T := T_Z) (N := 22) hx hb hts i_Z hown hK hP 0 0 rfl rfl rfl 5 (by decide) (hts _ kw_470) rfl rfl d_Z_label_40 ?_
          refine lv_iload_n hx hb d_Z_label_43 rfl (lv_at hl 2 rfl) ?_
          refine lv_iload_n hx hb d_Z_label_44 rfl (lv_at hl 3 rfl) ?_
          refine wz_iast (gs' := [zo_W q az (nI 0) n k kn bk sz fd ln fm fw, zs_W q az (upd sb p1 (nI j1)) gb]) hx hb hK hP hD hS 1 0 (j := p1) rfl rfl (by omega) (by decide) d_Z_label_45 rfl (fun H locs hP hD hS => ?_)
          refine lv_aload_n hx hb d_Z_label_46 rfl (lv_at hl 0 rfl) ?_
          have hQ := wz_split (n := 2) (gc := [zo_W q az (nI 0) n k kn bk sz fd ln fm fw]) (gr := [zs_W q az (upd sb p1 (nI j1)) gb]) [0] [1] rfl (by decide) rfl rfl hP hD
          refine wz_callv (va_runV (As := []) (rest := []) ⟨hx, hb, hml, hown, hts⟩ (c_Z_change l D q az (nI 0) n k kn bk sz fd ln fm fw _) (cwV 0 hts (wz_goodV kw_461 kw_463 kw_17 kw_33 kw_464) rfl rfl rfl (by decide +kernel) ⟨Nat.le_of_ble_eq_true rfl, Nat.le_of_ble_eq_true rfl⟩) (wz_preV (gi := 0) (k := 0) hN hK hQ wz_L_ok rfl rfl rfl) rfl rfl hl.1 rfl (lv_room (Nat.le_of_ble_eq_true rfl)) d_Z_label_47 ⟨Nat.le_of_ble_eq_true rfl, Nat.le_of_ble_eq_true rfl⟩) hQ hS hA (fun gx H locs hp hP hD hS => ?_)
          have hp : gx = _ := hp
          subst hp
          obtain ⟨hP, hD⟩ := wz_ord (n := 2) (gs' := [zo_W q az (nI 0) n k (-1) bk sz (nI 0) ln fm fw, zs_W q az (upd sb p1 (nI j1)) gb]) [0, 1] rfl (by decide) rfl hP hD
          refine lv_iconst (v := nI 1) hx hb d_Z_label_50 (by decide) ?_
          exact wz_zret hx hb hr hlocks hK hP hD hS d_Z_label_51 (by first | exact Or.inl rfl | exact Or.inr rfl) (Or.inr ⟨rfl, p1, j1, hp1, by omega, rfl, rfl, by rw [if_pos hc3, if_pos hc3]⟩)
        · skip
          refine lv_aload_n hx hb d_Z_label_29 rfl (lv_at hl 0 rfl) ?_
          refine wz_get (v := .ref (az 4)) (T := T_Z) (N := 22) hx hb hts i_Z hown hK hP 0 0 rfl rfl rfl 6 (by decide) (hts _ kw_471) rfl rfl d_Z_label_30 ?_
          refine lv_iload_n hx hb d_Z_label_33 rfl (lv_at hl 2 rfl) ?_
          refine lv_iload_n hx hb d_Z_label_34 rfl (lv_at hl 3 rfl) ?_
          refine wz_iast (gs' := [zo_W q az (nI 0) n k kn bk sz fd ln fm fw, zs_W q az sb (upd gb p1 (nI j1))]) hx hb hK hP hD hS 1 1 (j := p1) rfl rfl (by omega) (by decide) d_Z_label_35 rfl (fun H locs hP hD hS => ?_)
          refine lv_goto (tgt := 46) hx hb d_Z_label_36 (by decide) ?_
          refine lv_aload_n hx hb d_Z_label_46 rfl (lv_at hl 0 rfl) ?_
          have hQ := wz_split (n := 2) (gc := [zo_W q az (nI 0) n k kn bk sz fd ln fm fw]) (gr := [zs_W q az sb (upd gb p1 (nI j1))]) [0] [1] rfl (by decide) rfl rfl hP hD
          refine wz_callv (va_runV (As := []) (rest := []) ⟨hx, hb, hml, hown, hts⟩ (c_Z_change l D q az (nI 0) n k kn bk sz fd ln fm fw _) (cwV 0 hts (wz_goodV kw_461 kw_463 kw_17 kw_33 kw_464) rfl rfl rfl (by decide +kernel) ⟨Nat.le_of_ble_eq_true rfl, Nat.le_of_ble_eq_true rfl⟩) (wz_preV (gi := 0) (k := 0) hN hK hQ wz_L_ok rfl rfl rfl) rfl rfl hl.1 rfl (lv_room (Nat.le_of_ble_eq_true rfl)) d_Z_label_47 ⟨Nat.le_of_ble_eq_true rfl, Nat.le_of_ble_eq_true rfl⟩) hQ hS hA (fun gx H locs hp hP hD hS => ?_)
          have hp : gx = _ := hp
          subst hp
          obtain ⟨hP, hD⟩ := wz_ord (n := 2) (gs' := [zo_W q az (nI 0) n k (-1) bk sz (nI 0) ln fm fw, zs_W q az sb (upd gb p1 (nI j1))]) [0, 1] rfl (by decide) rfl hP hD
          refine lv_iconst (v := nI 1) hx hb d_Z_label_50 (by decide) ?_
          exact wz_zret hx hb hr hlocks hK hP hD hS d_Z_label_51 (by first | exact Or.inl rfl | exact Or.inr rfl) (Or.inr ⟨rfl, p1, j1, hp1, by omega, rfl, rfl, by rw [if_neg hc3, if_neg hc3]⟩)
      · skip
        refine lv_iconst (v := nI 0) hx hb d_Z_label_23 (by decide) ?_
        exact wz_zret hx hb hr hlocks hK hP hD hS d_Z_label_24 (by first | exact Or.inl rfl | exact Or.inr rfl) (Or.inl ⟨rfl, rfl, fun ⟨p2, j1, q⟩ => hc2 (by rw [q.2.2.2]; exact nI_le (b := 7) (by have := q.2.1; omega) (by decide))⟩)
end
