/-! PURE: a state as a number of n digits of base 8; moves on it; how many arrangements there are -/
def pz_dg (c p : Nat) : Nat := c / 8 ^ p % 8
def pz_mk (f : Nat → Nat) : Nat → Nat
  | 0 => 0
  | n + 1 => pz_mk f n + f n * 8 ^ n
theorem pz_dg_lt (c p : Nat) : pz_dg c p < 8 := Nat.mod_lt _ (by decide)
theorem pz_p8 (n : Nat) : 0 < 8 ^ n := Nat.pow_pos (by decide)
theorem pz_mk_lt {f : Nat → Nat} : ∀ {n : Nat}, (∀ p, p < n → f p < 8) → pz_mk f n < 8 ^ n
  | 0, _ => by simp [pz_mk]
  | n + 1, h => by
    have h1 := pz_mk_lt (f := f) (n := n) (fun p hp => h p (by omega))
    have h2 := h n (by omega)
    have h3 : f n * 8 ^ n ≤ 7 * 8 ^ n := Nat.mul_le_mul_right _ (by omega)
    have h4 : 8 ^ (n + 1) = 8 * 8 ^ n := by rw [Nat.pow_succ, Nat.mul_comm]
    simp only [pz_mk]
    omega
theorem pz_mk_congr {f g : Nat → Nat} : ∀ {n : Nat}, (∀ p, p < n → f p = g p) → pz_mk f n = pz_mk g n
  | 0, _ => rfl
  | n + 1, h => by
    simp only [pz_mk]
    rw [pz_mk_congr (fun p hp => h p (by omega)), h n (by omega)]
theorem pz_dg_mk {f : Nat → Nat} : ∀ {n : Nat}, (∀ p, p < n → f p < 8) → ∀ p, p < n → pz_dg (pz_mk f n) p = f p
  | 0, _, p, hp => by omega
  | n + 1, h, p, hp => by
    have h1 := pz_mk_lt (f := f) (n := n) (fun p hp => h p (by omega))
    have h2 := h n (by omega)
    simp only [pz_mk, pz_dg]
    by_cases e : p = n
    · subst e
      rw [Nat.add_mul_div_right _ _ (pz_p8 p), Nat.div_eq_of_lt h1, Nat.zero_add, Nat.mod_eq_of_lt h2]
    · have hpn : p < n := by omega
      have ih := pz_dg_mk (f := f) (n := n) (fun p hp => h p (by omega)) p hpn
      simp only [pz_dg] at ih
      have h5 : 8 ^ n = 8 ^ p * (8 * 8 ^ (n - p - 1)) := by
        rw [← Nat.mul_assoc, ← Nat.pow_succ, ← Nat.pow_add]
        congr 1
        omega
      have h6 : f n * 8 ^ n = 8 ^ p * (8 * (f n * 8 ^ (n - p - 1))) := by
        rw [h5]
        simp only [Nat.mul_left_comm]
      rw [h6, Nat.add_mul_div_left _ _ (pz_p8 p), Nat.add_mul_mod_self_left]
      exact ih
theorem pz_mk_dg : ∀ (n c : Nat), pz_mk (pz_dg c) n = c % 8 ^ n
  | 0, c => by simp [pz_mk, Nat.mod_one]
  | n + 1, c => by
    simp only [pz_mk]
    rw [pz_mk_dg n c, pz_dg, Nat.pow_succ, Nat.mod_mul, Nat.mul_comm (c / 8 ^ n % 8)]
theorem pz_ext {n a b : Nat} (ha : a < 8 ^ n) (hb : b < 8 ^ n) (h : ∀ p, p < n → pz_dg a p = pz_dg b p) : a = b := by
  rw [← Nat.mod_eq_of_lt ha, ← Nat.mod_eq_of_lt hb, ← pz_mk_dg, ← pz_mk_dg]
  exact pz_mk_congr h
/-- f and g undo each other on the places -/
def pz_perm (n : Nat) (f g : Nat → Nat) : Prop := ∀ p, p < n → f p < n ∧ g p < n ∧ g (f p) = p ∧ f (g p) = p
theorem pz_perm.symm {n : Nat} {f g : Nat → Nat} (h : pz_perm n f g) : pz_perm n g f := fun p hp => ⟨(h p hp).2.1, (h p hp).1, (h p hp).2.2.2, (h p hp).2.2.1⟩
/-- the state in which place q has what was at g q -/
def pz_act (n : Nat) (g : Nat → Nat) (c : Nat) : Nat := if c < 8 ^ n then pz_mk (fun q => pz_dg c (g q)) n else c
theorem pz_act_lt {n : Nat} {g : Nat → Nat} {c : Nat} (h : c < 8 ^ n) : pz_act n g c < 8 ^ n := by
  rw [pz_act, if_pos h]
  exact pz_mk_lt (fun p _ => pz_dg_lt _ _)
theorem pz_act_dg {n : Nat} {g : Nat → Nat} {c q : Nat} (h : c < 8 ^ n) (hq : q < n) : pz_dg (pz_act n g c) q = pz_dg c (g q) := by
  rw [pz_act, if_pos h]
  exact pz_dg_mk (f := fun q => pz_dg c (g q)) (fun p _ => pz_dg_lt _ _) q hq
theorem pz_act_inv {n : Nat} {f g : Nat → Nat} (h : pz_perm n f g) (c : Nat) : pz_act n f (pz_act n g c) = c := by
  by_cases hc : c < 8 ^ n
  · refine pz_ext (pz_act_lt (pz_act_lt hc)) hc (fun p hp => ?_)
    rw [pz_act_dg (pz_act_lt hc) hp, pz_act_dg hc (h p hp).1, (h p hp).2.2.1]
  · have h1 : pz_act n g c = c := by rw [pz_act, if_neg hc]
    rw [h1, pz_act, if_neg hc]
theorem pz_act_congr {n : Nat} {g g' : Nat → Nat} (h : ∀ q, q < n → g q = g' q) (c : Nat) : pz_act n g c = pz_act n g' c := by
  unfold pz_act
  by_cases hc : c < 8 ^ n
  · rw [if_pos hc, if_pos hc]
    exact pz_mk_congr (fun p hp => by rw [h p hp])
  · rw [if_neg hc, if_neg hc]
def pz_it (g : Nat → Nat) : Nat → Nat → Nat
  | 0, c => c
  | t + 1, c => g (pz_it g t c)
theorem pz_it_1 (g : Nat → Nat) : ∀ (t c : Nat), pz_it g (t + 1) c = pz_it g t (g c)
  | 0, _ => rfl
  | t + 1, c => by
    show g (pz_it g (t + 1) c) = g (pz_it g t (g c))
    rw [pz_it_1 g t c]
theorem pz_it_add (g : Nat → Nat) (a : Nat) : ∀ (b c : Nat), pz_it g (b + a) c = pz_it g b (pz_it g a c)
  | 0, c => by rw [Nat.zero_add]; rfl
  | b + 1, c => by
    rw [Nat.add_right_comm]
    show g (pz_it g (b + a) c) = g (pz_it g b (pz_it g a c))
    rw [pz_it_add g a b c]
theorem pz_it_inv {g g' : Nat → Nat} (h : ∀ c, g' (g c) = c) : ∀ (t c : Nat), pz_it g' t (pz_it g t c) = c
  | 0, _ => rfl
  | t + 1, c => by
    rw [pz_it_1]
    show pz_it g' t (g' (g (pz_it g t c))) = c
    rw [h]
    exact pz_it_inv h t c
/-- where one comes by doing g once, twice .. t times -/
def pz_tm (g : Nat → Nat) (c : Nat) : Nat → List Nat
  | 0 => []
  | t + 1 => pz_tm g c t ++ [pz_it g (t + 1) c]
/-- where the steps lead, in the order of the moves' numbers and of how often -/
def pz_st (g : Nat → Nat → Nat) (mt : Nat → Nat) : Nat → Nat → List Nat
  | 0, _ => []
  | k + 1, c => pz_st g mt k c ++ pz_tm (g k) c (mt k)
theorem pz_tm_mem {g : Nat → Nat} {c y : Nat} : ∀ {t : Nat}, y ∈ pz_tm g c t ↔ ∃ j, 0 < j ∧ j ≤ t ∧ y = pz_it g j c
  | 0 => ⟨fun h => (List.not_mem_nil h).elim, fun ⟨j, h1, h2, _⟩ => by omega⟩
  | t + 1 => by
    simp only [pz_tm, List.mem_append, List.mem_singleton]
    rw [pz_tm_mem (t := t)]
    constructor
    · rintro (⟨j, h1, h2, h3⟩ | h)
      · exact ⟨j, h1, by omega, h3⟩
      · exact ⟨t + 1, by omega, Nat.le_refl _, h⟩
    · rintro ⟨j, h1, h2, h3⟩
      by_cases e : j = t + 1
      · subst e; exact Or.inr h3
      · exact Or.inl ⟨j, h1, by omega, h3⟩
theorem pz_st_mem {g : Nat → Nat → Nat} {mt : Nat → Nat} {c y : Nat} : ∀ {k : Nat}, y ∈ pz_st g mt k c ↔ ∃ m j, m < k ∧ 0 < j ∧ j ≤ mt m ∧ y = pz_it (g m) j c
  | 0 => ⟨fun h => (List.not_mem_nil h).elim, fun ⟨m, j, h1, _⟩ => by omega⟩
  | k + 1 => by
    simp only [pz_st, List.mem_append]
    rw [pz_st_mem (k := k), pz_tm_mem]
    constructor
    · rintro (⟨m, j, h1, h2, h3, h4⟩ | ⟨j, h1, h2, h3⟩)
      · exact ⟨m, j, by omega, h2, h3, h4⟩
      · exact ⟨k, j, by omega, h1, h2, h3⟩
    · rintro ⟨m, j, h1, h2, h3, h4⟩
      by_cases e : m = k
      · subst e; exact Or.inr ⟨j, h2, h3, h4⟩
      · exact Or.inl ⟨m, j, by omega, h2, h3, h4⟩
theorem pz_tm_rev {g g' : Nat → Nat} (h : ∀ c, g' (g c) = c) (h' : ∀ c, g (g' c) = c) (a b : Nat) : ∀ t, pz_cnt b (pz_tm g a t) = pz_cnt a (pz_tm g' b t)
  | 0 => rfl
  | t + 1 => by
    simp only [pz_tm, pz_cnt_app, pz_cnt_one]
    rw [pz_tm_rev h h' a b t]
    congr 1
    by_cases e : pz_it g (t + 1) a = b
    · rw [if_pos e, if_pos (by rw [← e]; exact pz_it_inv h _ _)]
    · rw [if_neg e, if_neg (fun q => e (by rw [← q]; exact pz_it_inv h' _ _))]
theorem pz_st_rev {g g' : Nat → Nat → Nat} {mt : Nat → Nat} : ∀ {k : Nat}, (∀ m, m < k → ∀ c, g' m (g m c) = c) → (∀ m, m < k → ∀ c, g m (g' m c) = c) → ∀ a b, pz_cnt b (pz_st g mt k a) = pz_cnt a (pz_st g' mt k b)
  | 0, _, _, _, _ => rfl
  | k + 1, h, h', a, b => by
    simp only [pz_st, pz_cnt_app]
    rw [pz_st_rev (k := k) (fun m hm => h m (by omega)) (fun m hm => h' m (by omega)) a b, pz_tm_rev (h k (by omega)) (h' k (by omega))]
/-- arrangements of the labels of a -/
def pz_digits (n c : Nat) : List Nat := (List.range n).map (pz_dg c)
def pz_arr (n a c : Nat) : Prop := c < 8 ^ n ∧ (pz_digits n c).Perm (pz_digits n a)
theorem pz_arr_self {n a : Nat} (h : a < 8 ^ n) : pz_arr n a a := ⟨h, List.Perm.refl _⟩
theorem pz_arr_trans {n a b c : Nat} (h1 : pz_arr n a b) (h2 : pz_arr n b c) : pz_arr n a c := ⟨h2.1, h2.2.trans h1.2⟩
theorem pz_arr_symm {n a b : Nat} (ha : a < 8 ^ n) (h : pz_arr n a b) : pz_arr n b a := ⟨ha, h.2.symm⟩
theorem pz_range_perm {n : Nat} {f g : Nat → Nat} (h : pz_perm n f g) : ((List.range n).map g).Perm (List.range n) := by
  have hnd : ((List.range n).map g).Nodup := by
    rw [List.nodup_iff_pairwise_ne, List.pairwise_map]
    refine List.Pairwise.imp_of_mem ?_ List.nodup_range
    intro a b ha hb hab e
    have h1 := (h a (List.mem_range.mp ha)).2.2.2
    have h2 := (h b (List.mem_range.mp hb)).2.2.2
    rw [e] at h1
    exact hab (h1.symm.trans h2)
  have hsub : (List.range n).map g ⊆ List.range n := by
    intro x hx
    obtain ⟨p, hp, rfl⟩ := List.mem_map.mp hx
    exact List.mem_range.mpr (h p (List.mem_range.mp hp)).2.1
  rw [List.perm_ext_iff_of_nodup hnd List.nodup_range]
  intro x
  refine ⟨fun hx => hsub hx, fun hx => ?_⟩
  have hxn := List.mem_range.mp hx
  exact List.mem_map.mpr ⟨f x, List.mem_range.mpr (h x hxn).1, (h x hxn).2.2.1⟩
theorem pz_arr_act {n a c : Nat} {f g : Nat → Nat} (h : pz_perm n f g) (hc : pz_arr n a c) : pz_arr n a (pz_act n g c) := by
  refine ⟨pz_act_lt hc.1, List.Perm.trans ?_ hc.2⟩
  have h1 : pz_digits n (pz_act n g c) = ((List.range n).map g).map (pz_dg c) := by
    rw [List.map_map]
    refine List.map_congr_left (fun q hq => ?_)
    exact pz_act_dg hc.1 (List.mem_range.mp hq)
  rw [h1]
  exact (pz_range_perm h).map _
def pz_fact : Nat → Nat
  | 0 => 1
  | n + 1 => (n + 1) * pz_fact n
def pz_ins (x : Nat) : List Nat → List (List Nat)
  | [] => [[x]]
  | y :: l => (x :: y :: l) :: (pz_ins x l).map (y :: ·)
def pz_perms : List Nat → List (List Nat)
  | [] => [[]]
  | x :: l => (pz_perms l).flatMap (pz_ins x)
theorem pz_ins_len (x : Nat) : ∀ l : List Nat, (pz_ins x l).length = l.length + 1
  | [] => rfl
  | y :: l => by simp [pz_ins, pz_ins_len x l]
theorem pz_ins_mem (x : Nat) : ∀ a b : List Nat, a ++ x :: b ∈ pz_ins x (a ++ b)
  | [], [] => List.mem_singleton.mpr rfl
  | [], y :: b => List.mem_cons_self
  | y :: a, b => by
    show y :: (a ++ x :: b) ∈ (x :: y :: (a ++ b)) :: (pz_ins x (a ++ b)).map (y :: ·)
    exact List.mem_cons_of_mem _ (List.mem_map.mpr ⟨_, pz_ins_mem x a b, rfl⟩)
theorem pz_ins_all (x : Nat) : ∀ (l m : List Nat), m ∈ pz_ins x l → m.length = l.length + 1
  | [], m, h => by rw [List.mem_singleton.mp h]; rfl
  | y :: l, m, h => by
    rcases List.mem_cons.mp h with e | e
    · rw [e]; rfl
    · obtain ⟨q, hq, rfl⟩ := List.mem_map.mp e
      simp [pz_ins_all x l q hq]
theorem pz_perms_all : ∀ (l m : List Nat), m ∈ pz_perms l → m.length = l.length
  | [], m, h => by rw [List.mem_singleton.mp h]
  | x :: l, m, h => by
    obtain ⟨q, h1, h2⟩ := List.mem_flatMap.mp h
    rw [pz_ins_all x q m h2, pz_perms_all l q h1]
    rfl
theorem pz_flat_len {k : Nat} (f : List Nat → List (List Nat)) : ∀ (L : List (List Nat)), (∀ q, q ∈ L → (f q).length = k) → (L.flatMap f).length = k * L.length
  | [], _ => by simp
  | q :: L, h => by
    rw [List.flatMap_cons, List.length_append, pz_flat_len f L (fun z hz => h z (List.mem_cons_of_mem _ hz)), h q List.mem_cons_self, List.length_cons, Nat.mul_add, Nat.mul_one, Nat.add_comm]
theorem pz_perms_len : ∀ l : List Nat, (pz_perms l).length = pz_fact l.length
  | [] => rfl
  | x :: l => by
    show ((pz_perms l).flatMap (pz_ins x)).length = _
    rw [pz_flat_len (k := l.length + 1) _ _ (fun q hq => by rw [pz_ins_len, pz_perms_all l q hq]), pz_perms_len l]
    rfl
theorem pz_perms_mem : ∀ {l m : List Nat}, m.Perm l → m ∈ pz_perms l
  | [], m, h => by rw [h.eq_nil]; exact List.mem_singleton.mpr rfl
  | x :: l, m, h => by
    have hx : x ∈ m := h.mem_iff.mpr List.mem_cons_self
    obtain ⟨a, b, rfl⟩ := List.append_of_mem hx
    have h1 : (x :: (a ++ b)).Perm (x :: l) := List.perm_middle.symm.trans h
    exact List.mem_flatMap.mpr ⟨a ++ b, pz_perms_mem (List.Perm.cons_inv h1), pz_ins_mem x a b⟩
/-- different arrangements of n labels: n! at most -/
theorem pz_arr_len {n a : Nat} {Q : List Nat} (hn : Q.Nodup) (h : ∀ c, c ∈ Q → pz_arr n a c) : Q.length ≤ pz_fact n := by
  have h1 : (Q.map (pz_digits n)).Nodup := by
    rw [List.nodup_iff_pairwise_ne, List.pairwise_map]
    refine List.Pairwise.imp_of_mem ?_ hn
    intro x y hx hy hxy e
    refine hxy (pz_ext (h x hx).1 (h y hy).1 (fun p hp => ?_))
    have h2 : (pz_digits n x)[p]? = (pz_digits n y)[p]? := by rw [e]
    simpa [pz_digits, hp] using h2
  have h2 : Q.map (pz_digits n) ⊆ pz_perms (pz_digits n a) := by
    intro d hd
    obtain ⟨c, hc, rfl⟩ := List.mem_map.mp hd
    exact pz_perms_mem (h c hc).2
  have h3 := h1.length_le_of_subset h2
  rw [List.length_map, pz_perms_len] at h3
  simpa [pz_digits] using h3
