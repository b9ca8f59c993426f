/-! PURE: how often each label is there, in one number -/
def pz_tal (c : Nat) : Nat → Nat
  | 0 => 0
  | n + 1 => pz_tal c n + 16 ^ pz_dg c n
theorem pz_tal_sum (c : Nat) : ∀ n, pz_tal c n = pz_sum (fun d => 16 ^ d) (pz_digits n c)
  | 0 => rfl
  | n + 1 => by
    show pz_tal c n + 16 ^ pz_dg c n = _
    rw [pz_tal_sum c n]
    unfold pz_digits
    rw [List.range_succ, List.map_append, pz_sum_app]
    simp [pz_sum]
theorem pz_tal_lt (c : Nat) {n : Nat} (hn : n ≤ 8) : pz_tal c n ≤ n * 16 ^ 7 := by
  clear hn
  induction n with
  | zero => exact Nat.zero_le _
  | succ n ih =>
    have h1 : 16 ^ pz_dg c n ≤ 16 ^ 7 := Nat.pow_le_pow_right (by decide) (by have := pz_dg_lt c n; omega)
    show pz_tal c n + 16 ^ pz_dg c n ≤ _
    rw [Nat.succ_mul]
    exact Nat.add_le_add ih h1
theorem pz_sum_perm (f : Nat → Nat) {l l' : List Nat} (h : l.Perm l') : pz_sum f l = pz_sum f l' := by
  induction h with
  | nil => rfl
  | cons x _ ih => simp only [pz_sum, ih]
  | swap x y l => simp only [pz_sum]; omega
  | trans _ _ ih1 ih2 => exact ih1.trans ih2
theorem pz_cnt_count (c : Nat) : ∀ l : List Nat, pz_cnt c l = List.count c l
  | [] => rfl
  | x :: l => by
    show (if x = c then 1 else 0) + pz_cnt c l = _
    rw [pz_cnt_count c l, List.count_cons]
    by_cases e : x = c
    · subst e; simp; omega
    · simp [e]
/-- the labels from k on -/
def pz_tk (k : Nat) (l : List Nat) : Nat := pz_sum (fun d => if k ≤ d then 16 ^ (d - k) else 0) l
theorem pz_tk_s (k : Nat) : ∀ l : List Nat, pz_tk k l = pz_cnt k l + 16 * pz_tk (k + 1) l
  | [] => rfl
  | x :: l => by
    show (if k ≤ x then 16 ^ (x - k) else 0) + pz_tk k l = (if x = k then 1 else 0) + pz_cnt k l + 16 * ((if k + 1 ≤ x then 16 ^ (x - (k + 1)) else 0) + pz_tk (k + 1) l)
    rw [pz_tk_s k l]
    by_cases e : x = k
    · subst e
      rw [if_pos (Nat.le_refl _), if_pos rfl, if_neg (by omega), Nat.sub_self]
      omega
    · rw [if_neg e]
      by_cases h : k ≤ x
      · rw [if_pos h, if_pos (by omega), show x - k = x - (k + 1) + 1 by omega, Nat.pow_succ]
        omega
      · rw [if_neg h, if_neg (by omega)]
        omega
theorem pz_cnt_len (c : Nat) : ∀ l : List Nat, pz_cnt c l ≤ l.length
  | [] => Nat.le_refl _
  | x :: l => by
    show (if x = c then 1 else 0) + pz_cnt c l ≤ l.length + 1
    have := pz_cnt_len c l
    by_cases e : x = c
    · rw [if_pos e]; omega
    · rw [if_neg e]; omega
theorem pz_tk_cnt {l l' : List Nat} (hl : l.length ≤ 15) (hl' : l'.length ≤ 15) : ∀ k, pz_tk 0 l = pz_tk 0 l' → pz_tk k l = pz_tk k l' ∧ ∀ j, j < k → pz_cnt j l = pz_cnt j l'
  | 0, h => ⟨h, fun j hj => by omega⟩
  | k + 1, h => by
    obtain ⟨h1, h2⟩ := pz_tk_cnt hl hl' k h
    rw [pz_tk_s k l, pz_tk_s k l'] at h1
    have a1 := pz_cnt_len k l
    have a2 := pz_cnt_len k l'
    refine ⟨by omega, fun j hj => ?_⟩
    by_cases e : j = k
    · subst e; omega
    · exact h2 j (by omega)
theorem pz_tal_perm {n a c : Nat} (hn : n ≤ 8) (h : pz_tal a n = pz_tal c n) : (pz_digits n c).Perm (pz_digits n a) := by
  have e0 : ∀ l : List Nat, pz_tk 0 l = pz_sum (fun d => 16 ^ d) l := fun l => pz_sum_congr (fun d _ => by rw [if_pos (Nat.zero_le _), Nat.sub_zero])
  rw [pz_tal_sum, pz_tal_sum, ← e0, ← e0] at h
  rw [List.perm_iff_count]
  intro d
  rw [← pz_cnt_count, ← pz_cnt_count]
  exact ((pz_tk_cnt (by simp [pz_digits]; omega) (by simp [pz_digits]; omega) (d + 1) h).2 d (by omega)).symm
theorem pz_arr_tal {n a c : Nat} (h : pz_arr n a c) : pz_tal a n = pz_tal c n := by
  rw [pz_tal_sum, pz_tal_sum]
  exact (pz_sum_perm _ h.2).symm
theorem pz_ends_arr {s : Nat → List Nat} {n a0 a : Nat} (harr : ∀ x, pz_arr n a0 x → ∀ y, y ∈ s x → pz_arr n a0 y) (ha : pz_arr n a0 a) : ∀ k x, x ∈ pz_ends s a k → pz_arr n a0 x
  | 0, x, hx => by rw [List.mem_singleton.mp hx]; exact ha
  | k + 1, x, hx => by
    obtain ⟨y, hy, hxy⟩ := List.mem_flatMap.mp hx
    exact harr y (pz_ends_arr harr ha k y hy) x hxy
theorem pz_shl16 {d : Nat} (hd : d < 8) : nI 1 <<< (nI (4 * d) &&& 31) = nI (16 ^ d) := by
  rcases (show d = 0 ∨ d = 1 ∨ d = 2 ∨ d = 3 ∨ d = 4 ∨ d = 5 ∨ d = 6 ∨ d = 7 by omega) with h | h | h | h | h | h | h | h <;> subst h <;> decide
theorem nI_inj32 {a b : Nat} (ha : a < 2 ^ 32) (hb : b < 2 ^ 32) (h : nI a = nI b) : a = b := by
  rw [← pk_tn ha, ← pk_tn hb, h]
