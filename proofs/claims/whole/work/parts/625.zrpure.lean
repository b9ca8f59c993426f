/-! PURE: the reference's row -/
theorem zk_dist {s : Nat → List Nat} {r y K : Nat} {S : pz_S} (h : pz_inv s r S.1.length S) : S.2.1 y = some K ↔ pz_dist s r y K := by
  refine ⟨pz_exact h, fun hd => ?_⟩
  rcases pz_claim h K y hd.1 with ⟨e, _, he⟩ | ⟨x, d, hx, _⟩
  · rw [he, pz_dist_eq (pz_exact h he) hd]
  · exact absurd (List.getElem?_eq_some_iff.mp hx).1 (by omega)
theorem zk_ways {s : Nat → List Nat} {r y K : Nat} {S : pz_S} (h : pz_inv s r S.1.length S) (hy : S.2.1 y = some K) : S.2.2 y = lN (pz_cnt y (pz_ends s r K)) :=
  pz_full h hy (fun i a e hi ha => absurd (List.getElem?_eq_some_iff.mp ha).1 (by omega))
theorem zk_cl {s : Nat → List Nat} {r x y : Nat} {S : pz_S} (h : pz_inv s r S.1.length S) (hx : x ∈ S.1) (hy : y ∈ s x) : y ∈ S.1 := by
  obtain ⟨i, hi⟩ := List.getElem?_of_mem hx
  obtain ⟨d, hd⟩ := pz_mem_far h.1 hx
  obtain ⟨e, he, _⟩ := h.2.2.2.2.1 i x d y (List.getElem?_eq_some_iff.mp hi).1 hi hd hy
  exact pz_far_mem h.1 he
theorem zk_g0 {n k m x r : Nat} {me : Int32} {sg tu : Nat → Nat → Nat} {od : Nat → Nat} {to fo : Nat → Int32} {S : pz_S} (hk : k ≤ 6) (hz : zm_ok n k to fo sg tu od) (h : pz_inv (bl_s n k 6 sg tu od me) r S.1.length S) (hm : m < k) (h1 : 1 ≤ bl_mt me od m) (hx : x ∈ S.1) (hx8 : x < 8 ^ n) : bl_g n 0 sg tu m x ∈ S.1 := by
  obtain ⟨a1, a2, _, _⟩ := hz m hm
  have hs : ∀ y, y ∈ S.1 → pz_act n (sg m) y ∈ S.1 := fun y hy => zk_cl h hy (pz_st_mem.mpr ⟨m, 1, hm, by omega, h1, by
    show pz_act n (sg m) y = bl_g n 6 sg tu m y
    rw [zm_g6]⟩)
  have hi : ∀ j y, y ∈ S.1 → pz_it (pz_act n (sg m)) j y ∈ S.1 := by
    intro j
    induction j with
    | zero => exact fun y hy => hy
    | succ j ih => exact fun y hy => hs _ (ih y hy)
  obtain ⟨o, ho⟩ : ∃ o, od m = o + 1 := ⟨od m - 1, by have := a2.1; omega⟩
  have hc := pz_od_act a1 a2 hx8
  rw [ho, pz_it_1] at hc
  have hinv := pz_it_inv (g := pz_act n (tu m)) (g' := pz_act n (sg m)) (pz_act_inv a1) o (pz_act n (tu m) x)
  rw [hc] at hinv
  rw [zm_g0 (by omega), ← hinv]
  exact hi o x hx
theorem zk_it {n k m x r : Nat} {me : Int32} {sg tu : Nat → Nat → Nat} {od : Nat → Nat} {to fo : Nat → Int32} {S : pz_S} (hk : k ≤ 6) (hz : zm_ok n k to fo sg tu od) (h : pz_inv (bl_s n k 6 sg tu od me) r S.1.length S) (ha : ∀ c, c ∈ S.1 → pz_arr n r c) (hm : m < k) (h1 : 1 ≤ bl_mt me od m) (hx : x ∈ S.1) : ∀ t, pz_it (bl_g n 0 sg tu m) t x ∈ S.1
  | 0 => hx
  | t + 1 => zk_g0 hk hz h hm h1 (zk_it hk hz h ha hm h1 hx t) (ha _ (zk_it hk hz h ha hm h1 hx t)).1
/-- within one move -/
def zr_u (mt : Nat) (P : Nat → Prop) (ga : Bool) (u m : Nat) (a b : Int32) : Prop := (ga = false → ∀ t', 0 < t' → t' ≤ u → ¬ P t') ∧ (ga = true → 0 < u ∧ u ≤ mt ∧ P u ∧ (∀ t', 0 < t' → t' < u → ¬ P t') ∧ a = nI m ∧ b = nI u)
/-- over the moves -/
def zr_m (k : Nat) (mt : Nat → Nat) (g : Nat → Nat → Nat) (P : Nat → Nat → Prop) (x cv : Nat) (ga : Bool) (o : Nat) (a b : Int32) : Prop := (ga = false → cv = x ∧ ∀ m' t', m' < o → 0 < t' → t' ≤ mt m' → ¬ P m' t') ∧ (ga = true → ∃ mm tt, pz_fst k mt P mm tt ∧ cv = pz_it (g mm) tt x ∧ a = nI mm ∧ b = nI tt)
theorem zr_u_0 (mt : Nat) (P : Nat → Prop) (m : Nat) (a b : Int32) : zr_u mt P false 0 m a b := ⟨fun _ t' h1 h2 => by omega, fun e => by cases e⟩
theorem zr_u_no {mt u m : Nat} {P : Nat → Prop} {a b a' b' : Int32} (h : zr_u mt P false u m a b) (hP : ¬ P (u + 1)) : zr_u mt P false (u + 1) m a' b' := by
  refine ⟨fun _ t' h1 h2 => ?_, fun e => by cases e⟩
  by_cases e : t' = u + 1
  · subst e; exact hP
  · exact h.1 rfl t' h1 (by omega)
theorem zr_u_yes {mt u m : Nat} {P : Nat → Prop} {a b : Int32} (h : zr_u mt P false u m a b) (hu : u + 1 ≤ mt) (hP : P (u + 1)) : zr_u mt P true (u + 1) m (nI m) (nI (u + 1)) :=
  ⟨fun e => (by cases e), fun _ => ⟨by omega, hu, hP, fun t' h1 h2 => h.1 rfl t' h1 (by omega), rfl, rfl⟩⟩
theorem zr_m_0 (k : Nat) (mt : Nat → Nat) (g : Nat → Nat → Nat) (P : Nat → Nat → Prop) (x : Nat) (a b : Int32) : zr_m k mt g P x x false 0 a b := ⟨fun _ => ⟨rfl, fun m' t' h => by omega⟩, fun e => by cases e⟩
theorem zr_m_no {k o u x cv : Nat} {mt : Nat → Nat} {g : Nat → Nat → Nat} {P : Nat → Nat → Prop} {a b a' b' : Int32} (h : zr_m k mt g P x cv false o a' b') (hu : zr_u (mt o) (P o) false u o a b) (he : mt o ≤ u) : zr_m k mt g P x cv false (o + 1) a b := by
  refine ⟨fun _ => ⟨(h.1 rfl).1, fun m' t' h1 h2 h3 => ?_⟩, fun e => by cases e⟩
  by_cases e : m' = o
  · subst e; exact hu.1 rfl t' h2 (by omega)
  · exact (h.1 rfl).2 m' t' (by omega) h2 h3
theorem zr_m_yes {k o u x cv : Nat} {mt : Nat → Nat} {g : Nat → Nat → Nat} {P : Nat → Nat → Prop} {a b a' b' : Int32} (h : zr_m k mt g P x cv false o a' b') (hok : o < k) (hu : zr_u (mt o) (P o) true u o a b) : zr_m k mt g P x (pz_it (g o) u x) true (o + 1) a b := by
  obtain ⟨h1, h2, h3, h4, h5, h6⟩ := hu.2 rfl
  refine ⟨fun e => (by cases e), fun _ => ⟨o, u, ⟨hok, h1, h2, h3, fun m' t' q1 q2 q3 => ?_⟩, rfl, h5, h6⟩⟩
  rcases q3 with q3 | ⟨rfl, q3⟩
  · exact (h.1 rfl).2 m' t' q3 q1 q2
  · exact h4 t' q1 q3
/-- the row so far -/
def zr_row (k : Nat) (mt : Nat → Nat) (gg : Nat → Nat → Nat) (f : Nat → Nat → Prop) (a len i : Nat) (mv tm X : Nat → Nat) (ms ts : Nat → Int32) : Prop := X 0 = a ∧ ∀ j, j < i → (pz_fst k mt (fun m t => f (pz_it (gg m) t (X j)) (len - j - 1)) (mv j) (tm j) ∧ X (j + 1) = pz_it (gg (mv j)) (tm j) (X j)) ∧ ms j = nI (mv j) ∧ ts j = nI (tm j)
theorem zr_row_0 (k : Nat) (mt : Nat → Nat) (gg : Nat → Nat → Nat) (f : Nat → Nat → Prop) (a len : Nat) (ms ts : Nat → Int32) : zr_row k mt gg f a len 0 (fun _ => 0) (fun _ => 0) (fun _ => a) ms ts := ⟨rfl, fun j hj => by omega⟩
theorem zr_row_upd {k a len i : Nat} {mt : Nat → Nat} {gg : Nat → Nat → Nat} {f : Nat → Nat → Prop} {mv tm X : Nat → Nat} {ms ts : Nat → Int32} {u v : Int32} (h : zr_row k mt gg f a len i mv tm X ms ts) : zr_row k mt gg f a len i mv tm X (upd ms i u) (upd ts i v) :=
  ⟨h.1, fun j hj => by
    obtain ⟨h1, h2, h3⟩ := h.2 j hj
    exact ⟨h1, (pk_un (by omega)).trans h2, (pk_un (by omega)).trans h3⟩⟩
theorem zr_row_s {k a len i mm tt : Nat} {mt : Nat → Nat} {gg : Nat → Nat → Nat} {f : Nat → Nat → Prop} {mv tm X : Nat → Nat} {ms ts : Nat → Int32} (h : zr_row k mt gg f a len i mv tm X ms ts) (h1 : pz_fst k mt (fun m t => f (pz_it (gg m) t (X i)) (len - i - 1)) mm tt) (h2 : ms i = nI mm) (h3 : ts i = nI tt) : zr_row k mt gg f a len (i + 1) (pz_up mv i mm) (pz_up tm i tt) (pz_up X (i + 1) (pz_it (gg mm) tt (X i))) ms ts := by
  refine ⟨(pz_up_n _ _ (by omega)).trans h.1, fun j hj => ?_⟩
  by_cases e : j = i
  · subst e
    rw [pz_up_s, pz_up_s, pz_up_s, pz_up_n X _ (show j ≠ j + 1 by omega)]
    exact ⟨⟨h1, rfl⟩, h2, h3⟩
  · rw [pz_up_n mv _ e, pz_up_n tm _ e, pz_up_n X _ (show j ≠ i + 1 by omega), pz_up_n X _ (show j + 1 ≠ i + 1 by omega)]
    exact h.2 j (by omega)
