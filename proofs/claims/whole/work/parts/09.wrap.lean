/-! WRAP: worlds in groups of cells; contracts over them; calls; rows of places counted by naturals -/
abbrev wz_G : Type := List va_W
theorem wz_get_flat : ∀ {gs : wz_G} {gi k : Nat} {g : va_W} {c : Nat × va_E}, gs[gi]? = some g → g[k]? = some c → gs.flatten[(gs.take gi).flatten.length + k]? = some c
  | [], gi, k, g, c, h, _ => by simp at h
  | g0 :: gs, 0, k, g, c, h, hk => by
    have e : g0 = g := by simpa using h
    subst e
    simp only [List.take_zero, List.flatten_nil, List.length_nil, Nat.zero_add, List.flatten_cons]
    rw [List.getElem?_append_left (List.getElem?_eq_some_iff.mp hk).1]
    exact hk
  | g0 :: gs, gi + 1, k, g, c, h, hk => by
    have h' : gs[gi]? = some g := by simpa using h
    have ih := wz_get_flat h' hk
    simp only [List.take_succ_cons, List.flatten_cons, List.length_append]
    rw [List.getElem?_append_right (by omega), show g0.length + (gs.take gi).flatten.length + k - g0.length = (gs.take gi).flatten.length + k by omega]
    exact ih
theorem wz_set_flat : ∀ {gs : wz_G} {gi k : Nat} {g : va_W} (c : Nat × va_E), gs[gi]? = some g → k < g.length → gs.flatten.set ((gs.take gi).flatten.length + k) c = (gs.set gi (g.set k c)).flatten
  | [], gi, k, g, c, h, _ => by simp at h
  | g0 :: gs, 0, k, g, c, h, hk => by
    have e : g0 = g := by simpa using h
    subst e
    simp only [List.take_zero, List.flatten_nil, List.length_nil, Nat.zero_add, List.flatten_cons, List.set_cons_zero]
    rw [List.set_append_left _ _ hk]
  | g0 :: gs, gi + 1, k, g, c, h, hk => by
    have h' : gs[gi]? = some g := by simpa using h
    have ih := wz_set_flat c h' hk
    simp only [List.take_succ_cons, List.flatten_cons, List.length_append, List.set_cons_succ]
    rw [List.set_append_right _ _ (by omega), show g0.length + (gs.take gi).flatten.length + k - g0.length = (gs.take gi).flatten.length + k by omega, ih]
theorem wz_P_mem {D : va_G} {cl : List vw_C} {ws : va_W} {H : Heap} : va_P D cl ws H ↔ ∀ q, q ∈ ws → va_at D cl q H := by
  constructor
  · intro h q hq
    obtain ⟨k, hk⟩ := List.getElem?_of_mem hq
    exact h k q hk
  · intro h k q hk
    exact h q (List.mem_of_getElem? hk)
theorem wz_D_nd {A : Nat → Prop} {ws : va_W} : va_D A ws ↔ (ws.map Prod.fst).Nodup ∧ ∀ q, q ∈ ws → A q.1 := by
  constructor
  · rintro ⟨h1, h2⟩
    refine ⟨?_, fun q hq => ?_⟩
    · rw [List.nodup_iff_pairwise_ne, List.pairwise_map, List.pairwise_iff_getElem]
      intro i j hi hj hij e
      have := h1 i j _ _ (List.getElem?_eq_getElem hi) (List.getElem?_eq_getElem hj) e
      omega
    · obtain ⟨k, hk⟩ := List.getElem?_of_mem hq
      exact h2 k q hk
  · rintro ⟨h1, h2⟩
    refine ⟨fun i j p q hp hq e => ?_, fun k q hk => h2 q (List.mem_of_getElem? hk)⟩
    have hi := (List.getElem?_eq_some_iff.mp hp).1
    have h3 : (ws.map Prod.fst)[i]? = (ws.map Prod.fst)[j]? := by
      rw [List.getElem?_map, List.getElem?_map, hp, hq]
      simp [e]
    exact (List.getElem?_inj (by rw [List.length_map]; exact hi) h1).mp h3
theorem wz_P_perm {D : va_G} {cl : List vw_C} {ws ws' : va_W} {H : Heap} (p : ws.Perm ws') (h : va_P D cl ws H) : va_P D cl ws' H :=
  wz_P_mem.mpr (fun q hq => wz_P_mem.mp h q (p.mem_iff.mpr hq))
theorem wz_D_perm {A : Nat → Prop} {ws ws' : va_W} (p : ws.Perm ws') (h : va_D A ws) : va_D A ws' := by
  obtain ⟨h1, h2⟩ := wz_D_nd.mp h
  exact wz_D_nd.mpr ⟨(p.map Prod.fst).nodup_iff.mp h1, fun q hq => h2 q (p.mem_iff.mpr hq)⟩
theorem wz_range_map {α : Type} (l : List α) : (List.range l.length).map (fun i => l[i]?) = l.map some := by
  apply List.ext_getElem?
  intro i
  rw [List.getElem?_map, List.getElem?_map]
  by_cases h : i < l.length
  · rw [List.getElem?_range h]
    simp [h]
  · rw [List.getElem?_eq_none (by rw [List.length_range]; omega), List.getElem?_eq_none (by omega)]
    rfl
theorem wz_perm_of {gs gs' : wz_G} {n : Nat} (is : List Nat) (hn : gs.length = n) (hp : is.Perm (List.range n)) (h : is.map (fun i => gs[i]?) = gs'.map some) : gs.Perm gs' := by
  subst hn
  have h1 : (is.map (fun i => gs[i]?)).Perm (gs.map some) := by rw [← wz_range_map gs]; exact hp.map _
  rw [h] at h1
  have h2 := h1.filterMap id
  rw [List.filterMap_map, List.filterMap_map] at h2
  have e : ∀ l : wz_G, List.filterMap (id ∘ some) l = l := fun l => by
    induction l with
    | nil => rfl
    | cons x l ih => simp [ih]
  rw [e, e] at h2
  exact h2.symm
/-- the world in another order of its groups -/
theorem wz_ord {D : va_G} {cl : List vw_C} {A : Nat → Prop} {gs gs' : wz_G} {H : Heap} {n : Nat} (is : List Nat) (hn : gs.length = n) (hp : is.Perm (List.range n)) (h : is.map (fun i => gs[i]?) = gs'.map some) (hP : va_P D cl gs.flatten H) (hD : va_D A gs.flatten) : va_P D cl gs'.flatten H ∧ va_D A gs'.flatten :=
  ⟨wz_P_perm (wz_perm_of is hn hp h).flatten hP, wz_D_perm (wz_perm_of is hn hp h).flatten hD⟩
theorem wz_D_left {A : Nat → Prop} {u v : va_W} (h : va_D A (u ++ v)) : va_D A u := by
  obtain ⟨h1, h2⟩ := wz_D_nd.mp h
  rw [List.map_append] at h1
  exact wz_D_nd.mpr ⟨(List.nodup_append.mp h1).1, fun q hq => h2 q (List.mem_append_left _ hq)⟩
theorem wz_P_left {D : va_G} {cl : List vw_C} {u v : va_W} {H : Heap} (h : va_P D cl (u ++ v) H) : va_P D cl u H := wz_P_mem.mpr (fun q hq => wz_P_mem.mp h q (List.mem_append_left _ hq))
/-- behind a call: what came back beside what stayed -/
theorem wz_join {D : va_G} {cl : List vw_C} {A0 : Nat → Prop} {u v u' : va_W} {H H1 : Heap} (hP : va_P D cl (u ++ v) H) (hD : va_D A0 (u ++ v)) (hk : ∀ q : Nat, q < H.size → ¬ va_A u H.size q → H1[q]? = H[q]?) (hF : ∀ q, va_A u H.size q → A0 q) (hP1 : va_P D cl u' H1) (hD1 : va_D (va_A u H.size) u') : va_P D cl (u' ++ v) H1 ∧ va_D A0 (u' ++ v) := by
  obtain ⟨d1, d2⟩ := wz_D_nd.mp hD
  obtain ⟨e1, e2⟩ := wz_D_nd.mp hD1
  rw [List.map_append, List.nodup_append] at d1
  have out : ∀ q, q ∈ v → q.1 < H.size ∧ ¬ va_A u H.size q.1 := by
    intro q hq
    have hl := (wz_P_mem.mp hP q (List.mem_append_right _ hq)).lt
    refine ⟨hl, fun h => ?_⟩
    rcases h with ⟨k, e, h⟩ | h
    · exact d1.2.2 q.1 (List.mem_map.mpr ⟨_, List.mem_of_getElem? h, rfl⟩) q.1 (List.mem_map.mpr ⟨q, hq, rfl⟩) rfl
    · omega
  refine ⟨wz_P_mem.mpr (fun q hq => ?_), wz_D_nd.mpr ⟨?_, fun q hq => ?_⟩⟩
  · rcases List.mem_append.mp hq with h | h
    · exact wz_P_mem.mp hP1 q h
    · exact (wz_P_mem.mp hP q (List.mem_append_right _ h)).kept (hk q.1 (out q h).1 (out q h).2)
  · rw [List.map_append, List.nodup_append]
    refine ⟨e1, d1.2.1, fun a ha b hb e => ?_⟩
    obtain ⟨x, hx, rfl⟩ := List.mem_map.mp ha
    obtain ⟨y, hy, rfl⟩ := List.mem_map.mp hb
    exact (out y hy).2 (by rw [← e]; exact e2 x hx)
  · rcases List.mem_append.mp hq with h | h
    · exact hF _ (e2 q h)
    · exact d2 q (List.mem_append_right _ h)
/-- rows of cells, one for each number below n -/
def wz_rows (n : Nat) (r : Nat → Nat) (e : Nat → va_E) : va_W := (List.range n).map (fun i => (r i, e i))
theorem wz_rows_get {n i : Nat} {r : Nat → Nat} {e : Nat → va_E} (h : i < n) : (wz_rows n r e)[i]? = some (r i, e i) := by
  simp [wz_rows, h]
theorem wz_rows_len (n : Nat) (r : Nat → Nat) (e : Nat → va_E) : (wz_rows n r e).length = n := by simp [wz_rows]
theorem wz_rows_set {n i : Nat} {r : Nat → Nat} {e : Nat → va_E} (v : va_E) : (wz_rows n r e).set i (r i, v) = wz_rows n r (pz_up e i v) := by
  apply List.ext_getElem?
  intro j
  rw [List.getElem?_set]
  by_cases hij : i = j
  · subst hij
    rw [if_pos rfl]
    by_cases h : i < n
    · rw [if_pos (by rw [wz_rows_len]; exact h), wz_rows_get h, pz_up_s]
    · rw [if_neg (by rw [wz_rows_len]; exact h)]
      simp [wz_rows, h]
  · rw [if_neg hij]
    by_cases h : j < n
    · rw [wz_rows_get h, wz_rows_get h, pz_up_n _ _ (fun q => hij q.symm)]
    · simp [wz_rows, h]
theorem wz_rows_congr {n : Nat} {r : Nat → Nat} {e e' : Nat → va_E} (h : ∀ i, i < n → e i = e' i) : wz_rows n r e = wz_rows n r e' := by
  refine List.map_congr_left (fun i hi => ?_)
  rw [h i (List.mem_range.mp hi)]
/-! links between mates of a nest -/
def wz_isN : Cond → Bool
  | .fieldLinkNest .. => true
  | .methodLinkNest .. => true
  | _ => false
/-- arrays of arrays: the tables have their name -/
def va_AOA (ty : FieldType) (U : State) : Prop := (Cond.arrayOver (.array ty)).before #[] U = true
theorem va_AOA.of {ty : FieldType} {A : Array Value} {U : State} (h : (Cond.arrayOver (.array ty)).before A U = true) : va_AOA ty U := h
theorem va_AOA.use {ty : FieldType} {A : Array Value} {U : State} (h : va_AOA ty U) : (Cond.arrayOver (.array ty)).before A U = true := h
theorem va_AOA.moved {ty : FieldType} {u U : State} (hvm : u.vm.Alike U.vm) (h : va_AOA ty u) : va_AOA ty U := Jvm.Stand.arrayOver_alikeB hvm h
def wz_N (L : List Cond) (U : State) : Prop := (∀ w, w ∈ L → va_Nw w U) ∧ va_AOA .int U
theorem wz_N.warm {L : List Cond} (hL : L.all wz_isN = true) {s U : State} (hW : s.WarmedH U.vm) (h : wz_N L s) : wz_N L U := by
  refine ⟨?_, h.2.moved hW.alike⟩
  intro w hw
  have h1 := List.all_eq_true.mp hL w hw
  have h2 := h.1 w hw
  cases w with
  | fieldLinkNest a i b n d k => exact va_Nw.warmF hW h2
  | methodLinkNest a i x k => exact va_Nw.warmM hW h2
  | _ => simp [wz_isN] at h1
theorem wz_N.same {L : List Cond} (hL : L.all wz_isN = true) {u U : State} (h : u.vm = U.vm) (hN : wz_N L u) : wz_N L U := by
  refine ⟨?_, hN.2.moved (by rw [h]; exact Vm.Alike.refl _)⟩
  intro w hw
  have h1 := List.all_eq_true.mp hL w hw
  have h2 := hN.1 w hw
  cases w with
  | fieldLinkNest a i b n d k => exact va_Nw.same rfl h h2
  | methodLinkNest a i x k => exact va_Nw.same rfl h h2
  | _ => simp [wz_isN] at h1
