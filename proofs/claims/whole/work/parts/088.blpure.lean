/-! PURE: steps of a measure, as a ball goes out -/
/-- how often a step may do move o -/
def bl_mt (me : Int32) (od : Nat → Nat) (o : Nat) : Nat := if me = 0 then 1 else od o - 1
/-- one move, forward (fw 0) or undone (fw 6) -/
def bl_g (n fw : Nat) (sg tu : Nat → Nat → Nat) (o : Nat) : Nat → Nat := pz_act n (gq_in sg tu (fw + o))
/-- where the steps lead -/
def bl_s (n k fw : Nat) (sg tu : Nat → Nat → Nat) (od : Nat → Nat) (me : Int32) (x : Nat) : List Nat := pz_st (bl_g n fw sg tu) (bl_mt me od) k x
theorem bl_mt_eq {n k o : Nat} {me : Int32} {f : Nat → Int32} {M : Nat → Nat → Int32} {sg tu : Nat → Nat → Nat} {od : Nat → Nat} (h : mv_ok n k f M sg tu od) (ho : o < k) : (if me = 0 then nI 1 else f o - nI 1) = nI (bl_mt me od o) := by
  unfold bl_mt
  by_cases e : me = 0
  · rw [if_pos e, if_pos e]
  · rw [if_neg e, if_neg e, (h o ho).2.2.1, pk_sub (h o ho).2.1.1]
theorem bl_mt_le {n k o : Nat} {me : Int32} {f : Nat → Int32} {M : Nat → Nat → Int32} {sg tu : Nat → Nat → Nat} {od : Nat → Nat} (h : mv_ok n k f M sg tu od) (ho : o < k) : bl_mt me od o ≤ 14 := by
  unfold bl_mt
  by_cases e : me = 0
  · rw [if_pos e]; omega
  · rw [if_neg e]; have := (h o ho).2.1.2.1; omega
theorem bl_way {k fw o : Nat} (hk : k ≤ 6) (hf : fw = 0 ∨ fw = 6) (ho : o < k) : gq_way k (fw + o) := by
  unfold gq_way
  rcases hf with h | h <;> subst h <;> omega
theorem pz_take_keep {d e x c : Nat} {S : pz_S} (hx : S.2.1 x = some e) : (pz_take d S c).2.1 x = some e ∧ (pz_take d S c).2.2 x = S.2.2 x := by
  unfold pz_take
  by_cases h : S.2.1 c = none
  · rw [if_pos h]
    have hne : x ≠ c := fun q => by rw [q, h] at hx; cases hx
    exact ⟨by show pz_up _ _ _ _ = _; rw [pz_up_n _ _ hne]; exact hx, by show pz_up _ _ _ _ = _; rw [pz_up_n _ _ hne]⟩
  · rw [if_neg h]; exact ⟨hx, rfl⟩
theorem pz_take_lt {d c m : Nat} {S : pz_S} (h : ∀ x e, S.2.1 x = some e → e < m) (hd : d < m) : ∀ x e, (pz_take d S c).2.1 x = some e → e < m := by
  intro x e hx
  rw [pz_take_2] at hx
  by_cases q : x = c ∧ S.2.1 c = none
  · rw [if_pos q] at hx; cases hx; exact hd
  · rw [if_neg q] at hx; exact h x e hx
theorem pz_tm_fold {g : Nat → Nat} {x t d : Nat} {w : Int64} {S : pz_S} : (pz_tm g x (t + 1)).foldl (pz_vis d w) S = pz_bump d w (pz_take d ((pz_tm g x t).foldl (pz_vis d w) S) (pz_it g (t + 1) x)) (pz_it g (t + 1) x) := by
  show (pz_tm g x t ++ [pz_it g (t + 1) x]).foldl (pz_vis d w) S = _
  rw [List.foldl_append]
  rfl
theorem pz_st_fold {g : Nat → Nat → Nat} {mt : Nat → Nat} {x o d : Nat} {w : Int64} {S : pz_S} : (pz_st g mt (o + 1) x).foldl (pz_vis d w) S = (pz_tm (g o) x (mt o)).foldl (pz_vis d w) ((pz_st g mt o x).foldl (pz_vis d w) S) := by
  show (pz_st g mt o x ++ pz_tm (g o) x (mt o)).foldl (pz_vis d w) S = _
  rw [List.foldl_append]
theorem pz_fold_keep {d e x : Nat} {w : Int64} : ∀ {l : List Nat} {S : pz_S}, S.2.1 x = some e → e ≠ d → (l.foldl (pz_vis d w) S).2.1 x = some e ∧ (l.foldl (pz_vis d w) S).2.2 x = S.2.2 x
  | [], _, h, _ => ⟨h, rfl⟩
  | c :: l, S, h, hne => by
    obtain ⟨h1, h2⟩ := pz_vis_keep (c := c) (w := w) h hne
    obtain ⟨h3, h4⟩ := pz_fold_keep (l := l) h1 hne
    exact ⟨h3, h4.trans h2⟩
theorem pz_fold_lt {d m : Nat} {w : Int64} : ∀ {l : List Nat} {S : pz_S}, (∀ x e, S.2.1 x = some e → e < m) → d < m → ∀ x e, (l.foldl (pz_vis d w) S).2.1 x = some e → e < m
  | [], _, h, _ => h
  | _ :: l, _, h, hd => pz_fold_lt (l := l) (pz_vis_lt h hd) hd
def bl_b (c : Bool) : Int32 := if c = true then nI 1 else nI 0
theorem pz_ball_lt {s : Nat → List Nat} {a n d : Nat} {cm : Bool} {S : pz_S} (h : pz_ball s a n d cm S) {m : Nat} (hm : d < m) : ∀ x e, S.2.1 x = some e → e < m := fun x e hx => Nat.lt_of_le_of_lt (pz_ball_le h hx) hm
theorem bl_cw_mono {S : pz_S} (hok : pz_ok S) {d m0 m1 : Nat} (h0 : bl_cw S d m0) (h1 : bl_cw S (d + 1) m1) : m0 ≤ m1 := by
  by_cases q : m0 ≤ m1
  · exact q
  · exfalso
    have hl : m1 < S.1.length := by have := h0.1; omega
    have hx := List.getElem?_eq_getElem hl
    obtain ⟨e, he⟩ := pz_mem_far hok (List.mem_of_getElem? hx)
    have a1 := h0.2.1 m1 _ e (by omega) hx he
    have a2 := h1.2.2 m1 _ e (Nat.le_refl _) hx he
    omega
