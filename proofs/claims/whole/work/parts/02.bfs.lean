/-! PURE: the search by breadth as both programs do it: states in the order in which they are come upon, how far, how many ways -/
abbrev pz_S : Type := List Nat × (Nat → Option Nat) × (Nat → Int64)
def pz_up {α : Type} (f : Nat → α) (k : Nat) (v : α) : Nat → α := fun j => if j = k then v else f j
theorem pz_up_s {α : Type} (f : Nat → α) (k : Nat) (v : α) : pz_up f k v k = v := if_pos rfl
theorem pz_up_n {α : Type} (f : Nat → α) {k j : Nat} (v : α) (h : j ≠ k) : pz_up f k v j = f j := if_neg h
def pz_take (d : Nat) (S : pz_S) (c : Nat) : pz_S := if S.2.1 c = none then (S.1 ++ [c], pz_up S.2.1 c (some d), pz_up S.2.2 c 0) else S
def pz_bump (d : Nat) (w : Int64) (S : pz_S) (c : Nat) : pz_S := if S.2.1 c = some d then (S.1, S.2.1, pz_up S.2.2 c (S.2.2 c + w)) else S
def pz_vis (d : Nat) (w : Int64) (S : pz_S) (c : Nat) : pz_S := pz_bump d w (pz_take d S c) c
def pz_ok (S : pz_S) : Prop := S.1.Nodup ∧ ∀ c, c ∈ S.1 ↔ S.2.1 c ≠ none
theorem pz_vis_1 (d : Nat) (w : Int64) (S : pz_S) (x : Nat) : (pz_vis d w S x).1 = if S.2.1 x = none then S.1 ++ [x] else S.1 := by
  unfold pz_vis pz_bump pz_take
  by_cases h : S.2.1 x = none
  · simp [h, pz_up]
  · simp only [h, if_false]
    by_cases e : S.2.1 x = some d
    · simp [e]
    · simp [e]
theorem pz_vis_2 (d : Nat) (w : Int64) (S : pz_S) (x c : Nat) : (pz_vis d w S x).2.1 c = if c = x ∧ S.2.1 x = none then some d else S.2.1 c := by
  unfold pz_vis pz_bump pz_take
  by_cases h : S.2.1 x = none
  · simp [h, pz_up]
  · simp only [h, if_false, and_false]
    by_cases e : S.2.1 x = some d
    · simp [e]
    · simp [e]
theorem pz_vis_3 (d : Nat) (w : Int64) (S : pz_S) (x c : Nat) : (pz_vis d w S x).2.2 c = if c = x then (if S.2.1 x = none then w else if S.2.1 x = some d then S.2.2 x + w else S.2.2 x) else S.2.2 c := by
  unfold pz_vis pz_bump pz_take
  by_cases h : S.2.1 x = none
  · by_cases hc : c = x
    · simp [h, pz_up, hc]
    · simp [h, pz_up, hc]
  · simp only [h, if_false]
    by_cases e : S.2.1 x = some d
    · by_cases hc : c = x
      · simp [e, pz_up, hc]
      · simp [e, pz_up, hc]
    · by_cases hc : c = x
      · simp [e, hc]
      · simp [e, hc]
theorem pz_vis_ok {d : Nat} {w : Int64} {S : pz_S} {x : Nat} (h : pz_ok S) : pz_ok (pz_vis d w S x) := by
  obtain ⟨h1, h2⟩ := h
  refine ⟨?_, fun c => ?_⟩
  · rw [pz_vis_1]
    by_cases e : S.2.1 x = none
    · rw [if_pos e]
      have hx : x ∉ S.1 := fun hm => (h2 x).mp hm e
      refine List.nodup_append.mpr ⟨h1, by simp, fun a ha b hb => ?_⟩
      rw [List.mem_singleton.mp hb]
      exact fun e2 => hx (e2 ▸ ha)
    · rw [if_neg e]; exact h1
  · rw [pz_vis_1, pz_vis_2]
    by_cases e : S.2.1 x = none
    · rw [if_pos e, List.mem_append, List.mem_singleton]
      by_cases hc : c = x
      · simp [hc, e]
      · simp [hc, h2 c]
    · rw [if_neg e, if_neg (fun q => e q.2)]
      exact h2 c
theorem pz_fold_ok {d : Nat} {w : Int64} : ∀ {l : List Nat} {S : pz_S}, pz_ok S → pz_ok (l.foldl (pz_vis d w) S)
  | [], _, h => h
  | _ :: l, _, h => pz_fold_ok (l := l) (pz_vis_ok h)
theorem pz_fold_2 {d : Nat} {w : Int64} : ∀ (l : List Nat) (S : pz_S) (c : Nat), (l.foldl (pz_vis d w) S).2.1 c = if S.2.1 c = none ∧ c ∈ l then some d else S.2.1 c
  | [], S, c => by simp
  | x :: l, S, c => by
    show (l.foldl (pz_vis d w) (pz_vis d w S x)).2.1 c = _
    rw [pz_fold_2 l, pz_vis_2]
    by_cases hc : c = x
    · subst hc
      by_cases e : S.2.1 c = none
      · simp [e]
      · simp [e]
    · simp [hc]
theorem pz_fold_1 {d : Nat} {w : Int64} : ∀ (l : List Nat) (S : pz_S), ∃ N : List Nat, (l.foldl (pz_vis d w) S).1 = S.1 ++ N ∧ ∀ c, c ∈ N → S.2.1 c = none ∧ c ∈ l
  | [], S => ⟨[], by simp, fun c h => by cases h⟩
  | x :: l, S => by
    obtain ⟨N, h1, h2⟩ := pz_fold_1 (d := d) (w := w) l (pz_vis d w S x)
    by_cases e : S.2.1 x = none
    · refine ⟨x :: N, ?_, fun c hc => ?_⟩
      · show (l.foldl (pz_vis d w) (pz_vis d w S x)).1 = _
        rw [h1, pz_vis_1, if_pos e]
        simp
      · rcases List.mem_cons.mp hc with q | q
        · subst q; exact ⟨e, List.mem_cons_self⟩
        · obtain ⟨a, b⟩ := h2 c q
          rw [pz_vis_2] at a
          by_cases z : c = x
          · subst z; simp [e] at a
          · exact ⟨by simpa [z] using a, List.mem_cons_of_mem _ b⟩
    · refine ⟨N, ?_, fun c hc => ?_⟩
      · show (l.foldl (pz_vis d w) (pz_vis d w S x)).1 = _
        rw [h1, pz_vis_1, if_neg e]
      · obtain ⟨a, b⟩ := h2 c hc
        rw [pz_vis_2, if_neg (fun q => e q.2)] at a
        exact ⟨a, List.mem_cons_of_mem _ b⟩
theorem pz_lN0 : lN 0 = 0 := rfl
theorem pz_fold_3 {d w : Nat} : ∀ (l : List Nat) (S : pz_S) (c : Nat), (l.foldl (pz_vis d (lN w)) S).2.2 c = (if S.2.1 c = none ∧ c ∈ l then 0 else S.2.2 c) + (if (l.foldl (pz_vis d (lN w)) S).2.1 c = some d then lN (w * pz_cnt c l) else 0)
  | [], S, c => by
    show S.2.2 c = (if S.2.1 c = none ∧ c ∈ ([] : List Nat) then 0 else S.2.2 c) + (if S.2.1 c = some d then lN (w * pz_cnt c []) else 0)
    rw [if_neg (fun q => List.not_mem_nil q.2), pz_cnt_nil, Nat.mul_zero, pz_lN0]
    by_cases e : S.2.1 c = some d
    · rw [if_pos e, Int64.add_zero]
    · rw [if_neg e, Int64.add_zero]
  | x :: l, S, c => by
    have ih := pz_fold_3 (d := d) (w := w) l (pz_vis d (lN w) S x) c
    have h2 := pz_fold_2 (d := d) (w := lN w) l (pz_vis d (lN w) S x) c
    show (l.foldl (pz_vis d (lN w)) (pz_vis d (lN w) S x)).2.2 c = _ + (if (l.foldl (pz_vis d (lN w)) (pz_vis d (lN w) S x)).2.1 c = some d then _ else _)
    rw [ih, h2, pz_vis_2, pz_vis_3]
    have hcnt : pz_cnt c (x :: l) = (if x = c then 1 else 0) + pz_cnt c l := rfl
    rw [hcnt]
    by_cases hc : c = x
    · subst hc
      rw [if_pos rfl]
      by_cases e : S.2.1 c = none
      · simp only [e, and_self, if_true, List.mem_cons, true_or, reduceCtorEq, false_and, if_false]
        rw [Nat.mul_add, Nat.mul_one, ← lN_add, Int64.zero_add]
      · by_cases e2 : S.2.1 c = some d
        · simp only [e2, reduceCtorEq, and_false, if_false, false_and, if_true]
          rw [Nat.mul_add, Nat.mul_one, ← lN_add, Int64.add_assoc]
        · simp only [e, e2, and_false, if_false, false_and]
    · have hx : ¬ x = c := fun h => hc h.symm
      simp only [hc, hx, false_and, if_false, List.mem_cons, false_or, Nat.zero_add]
/-- what holds when the first n states have been gone out from -/
def pz_inv (s : Nat → List Nat) (r n : Nat) (S : pz_S) : Prop :=
  pz_ok S ∧ S.2.1 r = some 0 ∧ (∀ c d : Nat, S.2.1 c = some d → c ∈ pz_ends s r d) ∧
  (∀ i j a b d e : Nat, i ≤ j → S.1[i]? = some a → S.1[j]? = some b → S.2.1 a = some d → S.2.1 b = some e → d ≤ e) ∧
  (∀ j a d y : Nat, j < n → S.1[j]? = some a → S.2.1 a = some d → y ∈ s a → ∃ e, S.2.1 y = some e ∧ e ≤ d + 1) ∧
  (∀ x d : Nat, S.1[n]? = some x → S.2.1 x = some d → ∀ c e : Nat, S.2.1 c = some e → e ≤ d + 1) ∧
  (∀ c d : Nat, S.2.1 c = some (d + 1) → S.2.2 c = lN (pz_sum (fun x => if S.2.1 x = some d then pz_cnt x (pz_ends s r d) * pz_cnt c (s x) else 0) (S.1.take n))) ∧ S.2.2 r = 1
def pz_S0 (r : Nat) : pz_S := ([r], pz_up (fun _ => none) r (some 0), pz_up (fun _ => 0) r 1)
theorem pz_inv_0 (s : Nat → List Nat) (r : Nat) : pz_inv s r 0 (pz_S0 r) := by
  have hf : ∀ c d, (pz_S0 r).2.1 c = some d → c = r ∧ d = 0 := by
    intro c d h
    by_cases e : c = r
    · subst e
      simp only [pz_S0, pz_up_s, Option.some.injEq] at h
      exact ⟨rfl, h.symm⟩
    · simp only [pz_S0] at h
      rw [pz_up_n _ _ e] at h
      cases h
  refine ⟨⟨by simp [pz_S0], fun c => ?_⟩, by simp [pz_S0, pz_up], fun c d h => ?_, fun i j a b d e _ _ _ h1 h2 => ?_, fun j a d y hj => by omega, fun x d _ _ c e h => ?_, fun c d h => ?_, by simp [pz_S0, pz_up]⟩
  · by_cases e : c = r
    · simp [pz_S0, pz_up, e]
    · simp [pz_S0, pz_up, e]
  · obtain ⟨rfl, rfl⟩ := hf c d h
    exact List.mem_singleton.mpr rfl
  · rw [(hf a d h1).2]; exact Nat.zero_le _
  · rw [(hf c e h).2]; exact Nat.zero_le _
  · exact absurd (hf c (d + 1) h).2 (by omega)
theorem pz_mem_drop {l : List Nat} {x n : Nat} (hx : x ∈ l) (hn : x ∉ l.take n) : ∃ i, n ≤ i ∧ l[i]? = some x := by
  rw [← List.take_append_drop n l] at hx
  rcases List.mem_append.mp hx with h | h
  · exact absurd h hn
  · obtain ⟨j, hj⟩ := List.getElem?_of_mem h
    rw [List.getElem?_drop] at hj
    exact ⟨n + j, by omega, hj⟩
theorem pz_claim {s : Nat → List Nat} {r n : Nat} {S : pz_S} (h : pz_inv s r n S) : ∀ k c, c ∈ pz_ends s r k → (∃ e, e ≤ k ∧ S.2.1 c = some e) ∨ (∃ x d, S.1[n]? = some x ∧ S.2.1 x = some d ∧ d < k)
  | 0, c, hc => by
    rw [List.mem_singleton.mp hc]
    exact Or.inl ⟨0, Nat.le_refl 0, h.2.1⟩
  | k + 1, c, hc => by
    obtain ⟨x, hx, hcx⟩ := List.mem_flatMap.mp hc
    rcases pz_claim h k x hx with ⟨e, he, hf⟩ | ⟨y, d, h1, h2, h3⟩
    · have hm : x ∈ S.1 := (h.1.2 x).mpr (by rw [hf]; exact fun q => by cases q)
      obtain ⟨j, hj⟩ := List.getElem?_of_mem hm
      by_cases hjn : j < n
      · obtain ⟨e', h1, h2⟩ := h.2.2.2.2.1 j x e c hjn hj hf hcx
        exact Or.inl ⟨e', by omega, h1⟩
      · have hlt : n < S.1.length := by
          have := (List.getElem?_eq_some_iff.mp hj).1
          omega
        have hn : S.1[n]? = some S.1[n] := List.getElem?_eq_some_iff.mpr ⟨hlt, rfl⟩
        have hne := (h.1.2 S.1[n]).mp (List.mem_of_getElem? hn)
        cases hd : S.2.1 S.1[n] with
        | none => exact absurd hd hne
        | some d =>
          have := h.2.2.2.1 n j _ _ d e (by omega) hn hj hd hf
          exact Or.inr ⟨_, d, hn, hd, by omega⟩
    · exact Or.inr ⟨y, d, h1, h2, by omega⟩
theorem pz_exact {s : Nat → List Nat} {r n : Nat} {S : pz_S} (h : pz_inv s r n S) {c d : Nat} (hc : S.2.1 c = some d) : pz_dist s r c d := by
  refine ⟨h.2.2.1 c d hc, fun k hk hm => ?_⟩
  rcases pz_claim h k c hm with ⟨e, he, hf⟩ | ⟨x, e, h1, h2, h3⟩
  · have := hc.symm.trans hf
    cases this
    omega
  · have := h.2.2.2.2.2.1 x e h1 h2 c d hc
    omega
theorem pz_full {s : Nat → List Nat} {r n : Nat} {S : pz_S} (h : pz_inv s r n S) {c d : Nat} (hc : S.2.1 c = some d) (hp : ∀ i a e, n ≤ i → S.1[i]? = some a → S.2.1 a = some e → d ≤ e) : S.2.2 c = lN (pz_cnt c (pz_ends s r d)) := by
  cases d with
  | zero =>
    have := h.2.2.1 c 0 hc
    rw [List.mem_singleton.mp this, h.2.2.2.2.2.2.2]
    simp only [pz_ends, pz_cnt_one, if_true]
    rfl
  | succ d =>
    rw [h.2.2.2.2.2.2.1 c d hc]
    congr 1
    show _ = pz_cnt c ((pz_ends s r d).flatMap s)
    have hnd : (S.1.take n).Nodup := (List.take_sublist n S.1).nodup h.1.1
    rw [pz_cnt_flat, pz_group hnd (fun x => pz_cnt c (s x)) (pz_ends s r d) (fun x hx hxn => ?_)]
    · refine pz_sum_congr (fun y hy => ?_)
      obtain ⟨j, hj⟩ := List.getElem?_of_mem hy
      have hjn : j < n := by
        have := (List.getElem?_eq_some_iff.mp hj).1
        have := List.length_take_le n S.1
        omega
      rw [List.getElem?_take_of_lt hjn] at hj
      have hne := (h.1.2 y).mp (List.mem_of_getElem? hj)
      cases he : S.2.1 y with
      | none => exact absurd he hne
      | some e =>
        by_cases hed : e = d
        · rw [if_pos (by rw [hed])]
        · rw [if_neg (fun q => hed (Option.some.inj q))]
          symm
          rw [Nat.mul_eq_zero]
          rcases Nat.lt_or_gt_of_ne hed with q | q
          · right
            refine pz_cnt_zero (fun hm => ?_)
            obtain ⟨e', h1, h2⟩ := h.2.2.2.2.1 j y e c hjn hj he hm
            have := hc.symm.trans h1
            cases this
            omega
          · left
            exact pz_cnt_zero ((pz_exact h he).2 d q)
    · exfalso
      rcases pz_claim h d x hx with ⟨e, he, hf⟩ | ⟨y, e, h1, h2, h3⟩
      · have hm : x ∈ S.1 := (h.1.2 x).mpr (by rw [hf]; exact fun q => by cases q)
        obtain ⟨i, hi, hxi⟩ := pz_mem_drop hm hxn
        have := hp i x e hi hxi hf
        omega
      · have := hp n y e (Nat.le_refl n) h1 h2
        omega
theorem pz_inv_step {s : Nat → List Nat} {r n : Nat} {S : pz_S} (h : pz_inv s r n S) {x d : Nat} (hx : S.1[n]? = some x) (hd : S.2.1 x = some d) : pz_inv s r (n + 1) ((s x).foldl (pz_vis (d + 1) (S.2.2 x)) S) := by
  have hw : S.2.2 x = lN (pz_cnt x (pz_ends s r d)) := pz_full h hd (fun i a e hi ha he => h.2.2.2.1 n i x a d e hi hx ha hd he)
  rw [hw]
  generalize hS' : (s x).foldl (pz_vis (d + 1) (lN (pz_cnt x (pz_ends s r d)))) S = S'
  have hok : pz_ok S' := by rw [← hS']; exact pz_fold_ok h.1
  have h2 : ∀ c, S'.2.1 c = if S.2.1 c = none ∧ c ∈ s x then some (d + 1) else S.2.1 c := fun c => by rw [← hS']; exact pz_fold_2 _ _ _
  have h3 : ∀ c, S'.2.2 c = (if S.2.1 c = none ∧ c ∈ s x then 0 else S.2.2 c) + (if S'.2.1 c = some (d + 1) then lN (pz_cnt x (pz_ends s r d) * pz_cnt c (s x)) else 0) := fun c => by rw [← hS']; exact pz_fold_3 _ _ _
  obtain ⟨N, hN, hN2⟩ : ∃ N : List Nat, S'.1 = S.1 ++ N ∧ ∀ c, c ∈ N → S.2.1 c = none ∧ c ∈ s x := by rw [← hS']; exact pz_fold_1 _ _
  have hold : ∀ c e, S.2.1 c = some e → S'.2.1 c = some e := fun c e hc => by rw [h2, if_neg (fun q => by rw [hc] at q; cases q.1), hc]
  have hcase : ∀ c e, S'.2.1 c = some e → S.2.1 c = some e ∨ (S.2.1 c = none ∧ c ∈ s x ∧ e = d + 1) := by
    intro c e hc
    rw [h2] at hc
    by_cases q : S.2.1 c = none ∧ c ∈ s x
    · rw [if_pos q] at hc
      exact Or.inr ⟨q.1, q.2, (Option.some.inj hc).symm⟩
    · rw [if_neg q] at hc
      exact Or.inl hc
  have hle : ∀ c e, S'.2.1 c = some e → e ≤ d + 1 := by
    intro c e hc
    rcases hcase c e hc with q | q
    · exact h.2.2.2.2.2.1 x d hx hd c e q
    · omega
  have hlen : n < S.1.length := (List.getElem?_eq_some_iff.mp hx).1
  have hx' : S'.1[n]? = some x := by rw [hN, List.getElem?_append_left hlen]; exact hx
  refine ⟨hok, hold r 0 h.2.1, fun c e hc => ?_, fun i j a b e f hij ha hb he hf => ?_, fun j a e y hj ha he hy => ?_, fun y e hy he c f hc => ?_, fun c e hc => ?_, ?_⟩
  · rcases hcase c e hc with q | ⟨-, q2, q3⟩
    · exact h.2.2.1 c e q
    · subst q3
      exact List.mem_flatMap.mpr ⟨x, h.2.2.1 x d hd, q2⟩
  · by_cases hjl : j < S.1.length
    · rw [hN, List.getElem?_append_left hjl] at hb
      rw [hN, List.getElem?_append_left (by omega)] at ha
      have ha0 := (h.1.2 a).mp (List.mem_of_getElem? ha)
      have hb0 := (h.1.2 b).mp (List.mem_of_getElem? hb)
      rcases hcase a e he with q | q
      · rcases hcase b f hf with z | z
        · exact h.2.2.2.1 i j a b e f hij ha hb q z
        · exact absurd z.1 hb0
      · exact absurd q.1 ha0
    · rw [hN, List.getElem?_append_right (by omega)] at hb
      have hbN := hN2 b (List.mem_of_getElem? hb)
      rcases hcase b f hf with z | z
      · rw [hbN.1] at z; cases z
      · rw [z.2.2]; exact hle a e he
  · by_cases hjn : j = n
    · subst hjn
      have : a = x := Option.some.inj (ha.symm.trans hx')
      subst this
      have : e = d := Option.some.inj (he.symm.trans (hold a d hd))
      subst this
      by_cases q : S.2.1 y = none
      · exact ⟨e + 1, by rw [h2, if_pos ⟨q, hy⟩], Nat.le_refl _⟩
      · cases hf : S.2.1 y with
        | none => exact absurd hf q
        | some f => exact ⟨f, hold y f hf, h.2.2.2.2.2.1 a e hx hd y f hf⟩
    · have hjl : j < S.1.length := by omega
      rw [hN, List.getElem?_append_left hjl] at ha
      have ha0 := (h.1.2 a).mp (List.mem_of_getElem? ha)
      rcases hcase a e he with q | q
      · obtain ⟨f, f1, f2⟩ := h.2.2.2.2.1 j a e y (by omega) ha q hy
        exact ⟨f, hold y f f1, f2⟩
      · exact absurd q.1 ha0
  · have h4 : d ≤ e := by
      by_cases hjl : n + 1 < S.1.length
      · rw [hN, List.getElem?_append_left hjl] at hy
        have hy0 := (h.1.2 y).mp (List.mem_of_getElem? hy)
        rcases hcase y e he with q | q
        · exact h.2.2.2.1 n (n + 1) x y d e (by omega) hx hy hd q
        · exact absurd q.1 hy0
      · rw [hN, List.getElem?_append_right (by omega)] at hy
        have hyN := hN2 y (List.mem_of_getElem? hy)
        rcases hcase y e he with z | z
        · rw [hyN.1] at z; cases z
        · omega
    have := hle c f hc
    omega
  · have htake : S'.1.take (n + 1) = S.1.take n ++ [x] := by
      rw [hN, List.take_append_of_le_length (by omega), List.take_succ, hx]
      rfl
    have hold2 : ∀ y, y ∈ S.1.take n → S'.2.1 y = S.2.1 y := fun y hy => by
      have hne := (h.1.2 y).mp (List.mem_of_mem_take hy)
      rw [h2, if_neg (fun q => hne q.1)]
    rw [htake, pz_sum_app, h3, hc]
    have hlast : pz_sum (fun x => if S'.2.1 x = some e then pz_cnt x (pz_ends s r e) * pz_cnt c (s x) else 0) [x] = if e = d then pz_cnt x (pz_ends s r d) * pz_cnt c (s x) else 0 := by
      simp only [pz_sum, Nat.add_zero, hold x d hd]
      by_cases q : e = d
      · subst q; simp
      · rw [if_neg q, if_neg (fun z => q (Option.some.inj z).symm)]
    have hfirst : pz_sum (fun x => if S'.2.1 x = some e then pz_cnt x (pz_ends s r e) * pz_cnt c (s x) else 0) (S.1.take n) = pz_sum (fun x => if S.2.1 x = some e then pz_cnt x (pz_ends s r e) * pz_cnt c (s x) else 0) (S.1.take n) := pz_sum_congr (fun y hy => by rw [hold2 y hy])
    rw [hlast, hfirst, ← lN_add]
    have htail : (if some (e + 1) = some (d + 1) then lN (pz_cnt x (pz_ends s r d) * pz_cnt c (s x)) else 0) = lN (if e = d then pz_cnt x (pz_ends s r d) * pz_cnt c (s x) else 0) := by
      by_cases q : e = d
      · subst q; simp
      · rw [if_neg q, if_neg (fun z => q (by have := Option.some.inj z; omega))]
        exact pz_lN0.symm
    rw [htail]
    congr 1
    rcases hcase c (e + 1) hc with q | ⟨q1, q2, q3⟩
    · rw [if_neg (fun z => by rw [q] at z; cases z.1)]
      exact h.2.2.2.2.2.2.1 c e q
    · rw [if_pos ⟨q1, q2⟩]
      have h0 : pz_sum (fun x => if S.2.1 x = some e then pz_cnt x (pz_ends s r e) * pz_cnt c (s x) else 0) (S.1.take n) = 0 := pz_sum_zero (fun y hy => by
        by_cases z : S.2.1 y = some e
        · rw [if_pos z]
          obtain ⟨j, hj⟩ := List.getElem?_of_mem hy
          have hjn : j < n := by
            have := (List.getElem?_eq_some_iff.mp hj).1
            have := List.length_take_le n S.1
            omega
          rw [List.getElem?_take_of_lt hjn] at hj
          have : pz_cnt c (s y) = 0 := pz_cnt_zero (fun hm => by
            obtain ⟨f, f1, -⟩ := h.2.2.2.2.1 j y e c hjn hj z hm
            rw [q1] at f1; cases f1)
          rw [this, Nat.mul_zero]
        · rw [if_neg z])
      rw [h0]
      exact pz_lN0.symm
  · have hr : S'.2.1 r = some 0 := hold r 0 h.2.1
    rw [h3, if_neg (fun q => by rw [h.2.1] at q; cases q.1), hr, if_neg (fun q => by cases q), Int64.add_zero]
    exact h.2.2.2.2.2.2.2
