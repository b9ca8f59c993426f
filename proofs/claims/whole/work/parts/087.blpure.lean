/-! PURE: a ball as the program holds it: by the numbers of the states in the graph -/
def bl_fo : Option Nat → Int32
  | none => -1
  | some d => nI d
theorem bl_fo_n {o : Option Nat} (h : ∀ d, o = some d → d < 2 ^ 30) : bl_fo o = -1 ↔ o = none := by
  cases o with
  | none => exact ⟨fun _ => rfl, fun _ => rfl⟩
  | some d =>
    have hd := h d rfl
    refine ⟨fun e => ?_, fun e => by cases e⟩
    have h1 : ¬ (nI d < 0) := nI_pos (by omega)
    have e2 : nI d = -1 := e
    rw [e2] at h1
    exact absurd (by decide) h1
theorem bl_fo_s {o : Option Nat} {d : Nat} (h : ∀ d, o = some d → d < 2 ^ 30) (hd : d < 2 ^ 30) : bl_fo o = nI d ↔ o = some d := by
  cases o with
  | none =>
    refine ⟨fun e => ?_, fun e => by cases e⟩
    have h1 : ¬ (nI d < 0) := nI_pos (by omega)
    have e2 : (-1 : Int32) = nI d := e
    rw [← e2] at h1
    exact absurd (by decide) h1
  | some e =>
    have he := h e rfl
    constructor
    · intro q
      have q2 : nI e = nI d := q
      rw [(nI_eq (by omega) (by omega)).mp q2]
    · intro q; cases q; rfl
/-- the rows far, ways, reached hold the table S by the numbers of G -/
def bl_ok (cap : Nat) (G : List Nat) (S : pz_S) (fa : Nat → Int32) (wy : Nat → Int64) (re : Nat → Int32) : Prop :=
  pz_ok S ∧ (∀ i x, G[i]? = some x → fa i = bl_fo (S.2.1 x) ∧ (S.2.1 x ≠ none → wy i = S.2.2 x)) ∧ (∀ i, G.length ≤ i → i < cap → fa i = -1) ∧ (∀ i x, S.1[i]? = some x → ∃ j, re i = nI j ∧ G[j]? = some x)
theorem bl_in {cap : Nat} {G : List Nat} {S : pz_S} {fa : Nat → Int32} {wy : Nat → Int64} {re : Nat → Int32} (h : bl_ok cap G S fa wy re) {x : Nat} (hx : x ∈ S.1) : x ∈ G := by
  obtain ⟨i, hi⟩ := List.getElem?_of_mem hx
  obtain ⟨j, -, hj⟩ := h.2.2.2 i x hi
  exact List.mem_of_getElem? hj
theorem bl_len {cap : Nat} {G : List Nat} {S : pz_S} {fa : Nat → Int32} {wy : Nat → Int64} {re : Nat → Int32} (h : bl_ok cap G S fa wy re) : S.1.length ≤ G.length := h.1.1.length_le_of_subset (fun _ hx => bl_in h hx)
theorem bl_new {cap : Nat} {G : List Nat} {S : pz_S} {fa : Nat → Int32} {wy : Nat → Int64} {re : Nat → Int32} (h : bl_ok cap G S fa wy re) {x : Nat} (hx : x ∈ G) (hn : S.2.1 x = none) : S.1.length < G.length := by
  have hxs : x ∉ S.1 := fun q => (h.1.2 x).mp q hn
  have h1 : (S.1 ++ [x]).Nodup := List.nodup_append.mpr ⟨h.1.1, by simp, fun y hy z hz e => hxs (by rw [List.mem_singleton.mp hz] at e; exact e ▸ hy)⟩
  have h2 := h1.length_le_of_subset (l₂ := G) (fun y hy => by
    rcases List.mem_append.mp hy with q | q
    · exact bl_in h q
    · rw [List.mem_singleton.mp q]; exact hx)
  rw [List.length_append, List.length_singleton] at h2
  omega
/-- more states in the graph: the ball stays -/
theorem bl_more {cap : Nat} {G G' : List Nat} {S : pz_S} {fa : Nat → Int32} {wy : Nat → Int64} {re : Nat → Int32} (h : bl_ok cap G S fa wy re) (hp : ∃ Nw, G' = G ++ Nw) (hn : G'.Nodup) (hc : G'.length ≤ cap) : bl_ok cap G' S fa wy re := by
  obtain ⟨Nw, rfl⟩ := hp
  refine ⟨h.1, fun i x hx => ?_, fun i hi hic => h.2.2.1 i (by rw [List.length_append] at hi; omega) hic, fun i x hx => ?_⟩
  · by_cases e : i < G.length
    · rw [List.getElem?_append_left e] at hx; exact h.2.1 i x hx
    · have hl := (List.getElem?_eq_some_iff.mp hx).1
      have hno : S.2.1 x = none := by
        cases hq : S.2.1 x with
        | none => rfl
        | some d =>
          exfalso
          have hm := bl_in h (pz_far_mem h.1 hq)
          obtain ⟨j, hj⟩ := List.getElem?_of_mem hm
          have hjl := (List.getElem?_eq_some_iff.mp hj).1
          have hj' : (G ++ Nw)[j]? = some x := by rw [List.getElem?_append_left hjl]; exact hj
          have := pz_getinj hn hj' hx
          omega
      rw [hno]
      exact ⟨h.2.2.1 i (by omega) (by omega), fun q => absurd rfl q⟩
  · obtain ⟨j, h1, h2⟩ := h.2.2.2 i x hx
    exact ⟨j, h1, by rw [List.getElem?_append_left (List.getElem?_eq_some_iff.mp h2).1]; exact h2⟩
theorem bl_take {cap d i x : Nat} {G : List Nat} {S : pz_S} {fa : Nat → Int32} {wy : Nat → Int64} {re : Nat → Int32} (h : bl_ok cap G S fa wy re) (hG : G.Nodup) (hi : G[i]? = some x) (hx : S.2.1 x = none) : bl_ok cap G (pz_take d S x) (upd fa i (nI d)) (vp_updL wy i 0) (upd re S.1.length (nI i)) := by
  have hT : pz_take d S x = (S.1 ++ [x], pz_up S.2.1 x (some d), pz_up S.2.2 x 0) := if_pos hx
  refine ⟨pz_take_ok h.1, fun j y hy => ?_, fun j hj hjc => ?_, fun j y hy => ?_⟩
  · rw [hT]
    show upd fa i (nI d) j = bl_fo (pz_up S.2.1 x (some d) y) ∧ (pz_up S.2.1 x (some d) y ≠ none → vp_updL wy i 0 j = pz_up S.2.2 x 0 y)
    by_cases e : j = i
    · subst e
      have : y = x := Option.some.inj (hy.symm.trans hi)
      subst this
      rw [pk_us, pz_up_s, pk_uLs, pz_up_s]
      exact ⟨rfl, fun _ => rfl⟩
    · have hne : y ≠ x := fun q => e (by subst q; exact pz_getinj hG hy hi)
      rw [pk_un e, pz_up_n _ _ hne, pk_uLn e, pz_up_n _ _ hne]
      exact h.2.1 j y hy
  · have hil := (List.getElem?_eq_some_iff.mp hi).1
    rw [pk_un (by omega)]
    exact h.2.2.1 j hj hjc
  · rw [hT] at hy
    have hy : (S.1 ++ [x])[j]? = some y := hy
    by_cases e : j = S.1.length
    · subst e
      rw [List.getElem?_append_right (Nat.le_refl _), Nat.sub_self] at hy
      have : y = x := (Option.some.inj hy).symm
      subst this
      rw [pk_us]
      exact ⟨i, rfl, hi⟩
    · have hl := (List.getElem?_eq_some_iff.mp hy).1
      rw [List.length_append, List.length_singleton] at hl
      rw [List.getElem?_append_left (by omega)] at hy
      rw [pk_un e]
      exact h.2.2.2 j y hy
theorem bl_take_len {d x : Nat} {S : pz_S} (hx : S.2.1 x = none) : (pz_take d S x).1.length = S.1.length + 1 := by
  rw [pz_take_1, if_pos hx, List.length_append, List.length_singleton]
theorem bl_bump {cap d i x : Nat} {w : Int64} {G : List Nat} {S : pz_S} {fa : Nat → Int32} {wy : Nat → Int64} {re : Nat → Int32} (h : bl_ok cap G S fa wy re) (hG : G.Nodup) (hi : G[i]? = some x) (hx : S.2.1 x = some d) : bl_ok cap G (pz_bump d w S x) fa (vp_updL wy i (wy i + w)) re := by
  have hT : pz_bump d w S x = (S.1, S.2.1, pz_up S.2.2 x (S.2.2 x + w)) := if_pos hx
  rw [hT]
  refine ⟨h.1, fun j y hy => ?_, h.2.2.1, h.2.2.2⟩
  show fa j = bl_fo (S.2.1 y) ∧ (S.2.1 y ≠ none → vp_updL wy i (wy i + w) j = pz_up S.2.2 x (S.2.2 x + w) y)
  obtain ⟨h1, h2⟩ := h.2.1 j y hy
  refine ⟨h1, fun q => ?_⟩
  by_cases e : j = i
  · subst e
    have : y = x := Option.some.inj (hy.symm.trans hi)
    subst this
    rw [pk_uLs, pz_up_s, h2 q]
  · have hne : y ≠ x := fun q => e (by subst q; exact pz_getinj hG hy hi)
    rw [pk_uLn e, pz_up_n _ _ hne]
    exact h2 q
theorem pz_bump_no {d x : Nat} {w : Int64} {S : pz_S} (h : S.2.1 x ≠ some d) : pz_bump d w S x = S := if_neg h
theorem pz_take_no {d x : Nat} {S : pz_S} (h : S.2.1 x ≠ none) : pz_take d S x = S := if_neg h
theorem pz_bump_len (d x : Nat) (w : Int64) (S : pz_S) : (pz_bump d w S x).1 = S.1 := by
  unfold pz_bump
  by_cases e : S.2.1 x = some d <;> simp [e]
theorem pz_bump_far (d x : Nat) (w : Int64) (S : pz_S) : (pz_bump d w S x).2.1 = S.2.1 := by
  unfold pz_bump
  by_cases e : S.2.1 x = some d <;> simp [e]
theorem pz_vis_keep {d e x c : Nat} {w : Int64} {S : pz_S} (hx : S.2.1 x = some e) (hne : e ≠ d) : (pz_vis d w S c).2.1 x = some e ∧ (pz_vis d w S c).2.2 x = S.2.2 x := by
  rw [pz_vis_2, pz_vis_3]
  by_cases q : x = c
  · subst q
    rw [if_neg (fun z => by rw [hx] at z; cases z.2), if_pos rfl, if_neg (by rw [hx]; exact fun z => by cases z), if_neg (by rw [hx]; exact fun z => hne (Option.some.inj z))]
    exact ⟨hx, rfl⟩
  · rw [if_neg (fun z => q z.1), if_neg q]
    exact ⟨hx, rfl⟩
/-- bounds that both rows and branches need -/
theorem pz_vis_lt {d c : Nat} {w : Int64} {S : pz_S} {m : Nat} (h : ∀ x e, S.2.1 x = some e → e < m) (hd : d < m) : ∀ x e, (pz_vis d w S c).2.1 x = some e → e < m := by
  intro x e hx
  rw [pz_vis_2] at hx
  by_cases q : x = c ∧ S.2.1 c = none
  · rw [if_pos q] at hx; cases hx; exact hd
  · rw [if_neg q] at hx; exact h x e hx
/-- what must hold for a ball to be begun again: each known place of far stands in reached -/
def bl_raw (cap : Nat) (fa re : Nat → Int32) (sz : Nat) : Prop := sz ≤ cap ∧ (∀ i, i < sz → ∃ j, j < cap ∧ re i = nI j) ∧ ∀ i, i < cap → fa i = -1 ∨ ∃ y, y < sz ∧ re y = nI i
theorem bl_ok_raw {cap : Nat} {G : List Nat} {S : pz_S} {fa : Nat → Int32} {wy : Nat → Int64} {re : Nat → Int32} (h : bl_ok cap G S fa wy re) (hG : G.length ≤ cap) (hn : G.Nodup) : bl_raw cap fa re S.1.length := by
  refine ⟨Nat.le_trans (bl_len h) hG, fun i hi => ?_, fun i hi => ?_⟩
  · obtain ⟨j, h1, h2⟩ := h.2.2.2 i _ (List.getElem?_eq_getElem hi)
    exact ⟨j, by have := (List.getElem?_eq_some_iff.mp h2).1; omega, h1⟩
  · by_cases e : i < G.length
    · have hx := List.getElem?_eq_getElem e
      have h1 := (h.2.1 i _ hx).1
      cases hq : S.2.1 G[i] with
      | none => rw [hq] at h1; exact Or.inl h1
      | some d =>
        right
        obtain ⟨y, hy⟩ := List.getElem?_of_mem (pz_far_mem h.1 hq)
        obtain ⟨j, g1, g2⟩ := h.2.2.2 y _ hy
        refine ⟨y, (List.getElem?_eq_some_iff.mp hy).1, ?_⟩
        rw [g1, pz_getinj hn g2 hx]
    · exact Or.inl (h.2.2.1 i (by omega) hi)
/-- the begun ball -/
theorem bl_begin {cap i x : Nat} {G : List Nat} {fa re : Nat → Int32} {wy : Nat → Int64} (hG : G.Nodup) (hc : G.length ≤ cap) (hi : G[i]? = some x) (hf : ∀ j, j < cap → fa j = -1) : bl_ok cap G (pz_S0 x) (upd fa i (nI 0)) (vp_updL (vp_updL wy i 0) i 1) (upd re 0 (nI i)) := by
  refine ⟨(pz_inv_0 (fun _ => []) x).1, fun j y hy => ?_, fun j hj hjc => ?_, fun j y hy => ?_⟩
  · have hjl := (List.getElem?_eq_some_iff.mp hy).1
    show upd fa i (nI 0) j = bl_fo (pz_up (fun _ => none) x (some 0) y) ∧ (pz_up (fun _ => none) x (some 0) y ≠ none → vp_updL (vp_updL wy i 0) i 1 j = pz_up (fun _ => 0) x 1 y)
    by_cases e : j = i
    · subst e
      have : y = x := Option.some.inj (hy.symm.trans hi)
      subst this
      rw [pk_us, pz_up_s, pk_uLs, pz_up_s]
      exact ⟨rfl, fun _ => rfl⟩
    · have hne : y ≠ x := fun q => e (by subst q; exact pz_getinj hG hy hi)
      rw [pk_un e, pz_up_n _ _ hne]
      exact ⟨hf j (by omega), fun q => absurd rfl q⟩
  · have hil := (List.getElem?_eq_some_iff.mp hi).1
    rw [pk_un (by omega)]
    exact hf j hjc
  · have hy : [x][j]? = some y := hy
    have hj : j < 1 := (List.getElem?_eq_some_iff.mp hy).1
    have hj0 : j = 0 := by omega
    subst hj0
    have : y = x := (Option.some.inj hy).symm
    subst this
    rw [pk_us]
    exact ⟨i, rfl, hi⟩
/-- how many lie nearer than d: the first so many -/
def bl_cw (S : pz_S) (d m : Nat) : Prop := m ≤ S.1.length ∧ (∀ i x e, i < m → S.1[i]? = some x → S.2.1 x = some e → e < d) ∧ ∀ i x e, m ≤ i → S.1[i]? = some x → S.2.1 x = some e → d ≤ e
theorem bl_cw_ex {s : Nat → List Nat} {r N : Nat} {S : pz_S} (h : pz_inv s r N S) (d : Nat) : ∃ m, bl_cw S d m := by
  have key : ∀ q, q ≤ S.1.length → ∃ m, m ≤ q ∧ (∀ i x e, i < m → S.1[i]? = some x → S.2.1 x = some e → e < d) ∧ ∀ i x e, m ≤ i → i < q → S.1[i]? = some x → S.2.1 x = some e → d ≤ e := by
    intro q
    induction q with
    | zero => intro _; exact ⟨0, Nat.le_refl 0, fun i x e hi => by omega, fun i x e _ hi => by omega⟩
    | succ q ih =>
      intro hq
      obtain ⟨m, h1, h2, h3⟩ := ih (by omega)
      have hx := List.getElem?_eq_getElem (show q < S.1.length by omega)
      obtain ⟨e, he⟩ := pz_mem_far h.1 (List.mem_of_getElem? hx)
      by_cases c : e < d
      · refine ⟨q + 1, Nat.le_refl _, fun i x f hi hx' hf => ?_, fun i x f hi hi2 => by omega⟩
        have := h.2.2.2.1 i q x _ f e (by omega) hx' hx hf he
        omega
      · refine ⟨m, by omega, h2, fun i x f hi hi2 hx' hf => ?_⟩
        by_cases z : i = q
        · subst z
          have : x = S.1[i] := Option.some.inj (hx'.symm.trans hx)
          subst this
          have := Option.some.inj (hf.symm.trans he)
          omega
        · exact h3 i x f hi (by omega) hx' hf
  obtain ⟨m, h1, h2, h3⟩ := key S.1.length (Nat.le_refl _)
  exact ⟨m, h1, h2, fun i x e hi hx he => h3 i x e hi (List.getElem?_eq_some_iff.mp hx).1 hx he⟩
