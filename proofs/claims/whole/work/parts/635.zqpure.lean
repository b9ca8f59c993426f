/-! PURE: rows that are given, counts -/
theorem wz_cmp_eq {a b : Nat} (ha : a < 2 ^ 63) (hb : b < 2 ^ 63) : lg_cmp (lN a) (lN b) = 0 ↔ a = b := by
  unfold lg_cmp
  by_cases h1 : lN b < lN a
  · rw [if_pos h1]
    rw [pk_lLT hb ha] at h1
    exact ⟨fun q => absurd q (by decide), fun q => by omega⟩
  · rw [if_neg h1]
    by_cases h2 : lN a = lN b
    · rw [if_pos h2]
      exact ⟨fun _ => (pk_lEQ ha hb).mp h2, fun _ => rfl⟩
    · rw [if_neg h2]
      exact ⟨fun q => absurd q (by decide), fun q => absurd (congrArg lN q) h2⟩
theorem wz_cmp_ge0 {x : Int64} : 0 ≤ lg_cmp x 0 ↔ ¬ x < 0 := by
  unfold lg_cmp
  by_cases h1 : (0 : Int64) < x
  · rw [if_pos h1]
    refine ⟨fun _ q => ?_, fun _ => by decide⟩
    rw [Int64.lt_iff_toInt_lt] at h1 q
    omega
  · rw [if_neg h1]
    by_cases h2 : x = 0
    · rw [if_pos h2]
      subst h2
      exact ⟨fun _ => by decide, fun _ => by decide⟩
    · rw [if_neg h2]
      refine ⟨fun q => absurd q (by decide), fun q => absurd ?_ h2⟩
      rw [Int64.lt_iff_toInt_lt] at h1 q
      rw [← Int64.toInt_inj]
      omega
/-- a row as a number, digit by digit -/
def zrep (k : Nat) (g : Nat → Nat → Nat) (gl : Nat) : Nat → Nat → Nat → Prop
  | 0, _, _ => False
  | f + 1, r, c => (r % 8 = 7 ∧ r / 8 = 0 ∧ c = gl) ∨ (r % 8 ≠ 7 ∧ r % 8 < k ∧ zrep k g gl f (r / 8) (g (r % 8) c))
theorem zrep_0 {k : Nat} {g : Nat → Nat → Nat} {gl : Nat} : ∀ f c, ¬ zrep k g gl f 0 c
  | 0, _ => fun q => q
  | f + 1, c => fun q => by
    rcases q with ⟨q, _⟩ | ⟨_, _, q⟩
    · exact absurd q (by decide)
    · exact zrep_0 f _ q
theorem zrep_end {k : Nat} {g : Nat → Nat → Nat} {gl f r c : Nat} (h : r % 8 = 7) : zrep k g gl (f + 1) r c ↔ r / 8 = 0 ∧ c = gl := by
  constructor
  · intro q
    rcases q with ⟨_, q⟩ | ⟨q, _⟩
    · exact q
    · exact absurd h q
  · exact fun q => Or.inl ⟨h, q⟩
theorem zrep_no {k : Nat} {g : Nat → Nat → Nat} {gl f r c : Nat} (h : r % 8 ≠ 7) (hk : ¬ r % 8 < k) : ¬ zrep k g gl (f + 1) r c := by
  intro q
  rcases q with ⟨q, _⟩ | ⟨_, q, _⟩
  · exact h q
  · exact hk q
theorem zrep_on {k : Nat} {g : Nat → Nat → Nat} {gl f r c : Nat} (h : r % 8 ≠ 7) (hk : r % 8 < k) : zrep k g gl (f + 1) r c ↔ zrep k g gl f (r / 8) (g (r % 8) c) := by
  constructor
  · intro q
    rcases q with ⟨q, _⟩ | ⟨_, _, q⟩
    · exact absurd q h
    · exact q
  · exact fun q => Or.inr ⟨h, hk, q⟩
theorem wz_bit_iff {v : Int32} {P Q : Prop} (h : wz_bit v P) (e : Q ↔ P) : wz_bit v Q := by
  rcases h with h | h
  · exact Or.inl ⟨h.1, e.mpr h.2⟩
  · exact Or.inr ⟨h.1, fun q => h.2 (e.mp q)⟩
/-- how many lie just so far -/
def zcn (S : pz_S) (D : Nat) (l : List Nat) : Nat := pz_sum (fun x => if S.2.1 x = some D then 1 else 0) l
theorem zcn_s {S : pz_S} {D i x : Nat} {l : List Nat} (h : l[i]? = some x) : zcn S D (l.take (i + 1)) = zcn S D (l.take i) + if S.2.1 x = some D then 1 else 0 := by
  unfold zcn
  rw [pz_take_snoc h, pz_sum_app, pz_sum_one]
theorem zcn_le (S : pz_S) (D : Nat) : ∀ l : List Nat, zcn S D l ≤ l.length
  | [] => Nat.le_refl _
  | x :: l => by
    have := zcn_le S D l
    show (if S.2.1 x = some D then 1 else 0) + zcn S D l ≤ l.length + 1
    by_cases e : S.2.1 x = some D
    · rw [if_pos e]; omega
    · rw [if_neg e]; omega
theorem zcn_all (S : pz_S) (D : Nat) (l : List Nat) : zcn S D (l.take l.length) = zcn S D l := by rw [List.take_length]
