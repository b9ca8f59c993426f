/-! PURE: the bits of a state -/
theorem pz_nI_or (a b : Nat) : nI a ||| nI b = nI (a ||| b) := by
  apply Int32.toBitVec_inj.mp
  show BitVec.ofNat 32 a ||| BitVec.ofNat 32 b = BitVec.ofNat 32 (a ||| b)
  exact (BitVec.ofNat_or).symm
theorem pz_and7 {c : Nat} (h : c < 2 ^ 32) : nI c &&& nI 7 = nI (c % 8) := pk_andN h 3 (by decide)
theorem pz_p2 (q : Nat) : 8 ^ q = 2 ^ (3 * q) := by rw [Nat.pow_mul]
theorem pz_p8le {q : Nat} (h : q ≤ 8) : 8 ^ q ≤ 2 ^ 24 := by
  rw [pz_p2]
  exact Nat.pow_le_pow_right (by decide) (by omega)
theorem pz_p8lt {q : Nat} (h : q < 8) : 8 ^ q ≤ 2 ^ 21 := by
  rw [pz_p2]
  exact Nat.pow_le_pow_right (by decide) (by omega)
theorem pz_shl {d q : Nat} (hd : d < 8) (hq : q < 8) : nI d <<< (nI (3 * q) &&& 31) = nI (d * 8 ^ q) := by
  have h1 : ((nI (3 * q) &&& 31).toBitVec.smod 32).toNat = 3 * q := by
    rcases (show q = 0 ∨ q = 1 ∨ q = 2 ∨ q = 3 ∨ q = 4 ∨ q = 5 ∨ q = 6 ∨ q = 7 by omega) with h | h | h | h | h | h | h | h <;> subst h <;> decide
  have h2 := pz_p8lt hq
  have h3 : d * 8 ^ q ≤ 7 * 2 ^ 21 := Nat.mul_le_mul (by omega) h2
  rw [pk_shlN _ (3 * q) h1 (by rw [← pz_p2]; omega), ← pz_p2]
theorem pz_shr {c q : Nat} (hc : c < 2 ^ 31) (hq : q < 8) : nI c >>> (nI (3 * q) &&& 31) = nI (c / 8 ^ q) := by
  have h1 : ((nI (3 * q) &&& 31).toBitVec.smod 32).toNat = 3 * q := by
    rcases (show q = 0 ∨ q = 1 ∨ q = 2 ∨ q = 3 ∨ q = 4 ∨ q = 5 ∨ q = 6 ∨ q = 7 by omega) with h | h | h | h | h | h | h | h <;> subst h <;> decide
  rw [pk_shrN hc _ (3 * q) h1, ← pz_p2]
theorem pz_ushr3 {c : Nat} (hc : c < 2 ^ 32) : ((nI c).toUInt32 >>> ((nI 3).toUInt32 &&& Int32.toUInt32 31)).toInt32 = nI (c / 8) := pk_ushrN hc (nI 3) 3 (by decide)
theorem pz_ushr {c q : Nat} (hc : c < 2 ^ 32) (hq : q < 8) : ((nI c).toUInt32 >>> ((nI (3 * q)).toUInt32 &&& Int32.toUInt32 31)).toInt32 = nI (c / 8 ^ q) := by
  have h1 : (((nI (3 * q)).toUInt32 &&& Int32.toUInt32 31).toBitVec % 32).toNat = 3 * q := by
    rcases (show q = 0 ∨ q = 1 ∨ q = 2 ∨ q = 3 ∨ q = 4 ∨ q = 5 ∨ q = 6 ∨ q = 7 by omega) with h | h | h | h | h | h | h | h <;> subst h <;> decide
  rw [pk_ushrN hc _ (3 * q) h1, ← pz_p2]
/-- a digit is laid where there is none yet -/
theorem pz_or_put {B q d : Nat} (h0 : pz_dg B q = 0) (hd : d < 8) : B ||| d * 8 ^ q = B + d * 8 ^ q := by
  unfold pz_dg at h0
  have e1 : B / 8 ^ q = 8 * (B / 8 ^ q / 8) := by omega
  have e2 : B / 8 ^ q / 8 = B / 8 ^ (q + 1) := by rw [Nat.div_div_eq_div_mul, ← Nat.pow_succ]
  have e3 := Nat.div_add_mod B (8 ^ q)
  generalize hlo : B % 8 ^ q = lo at e3
  have hlo2 : lo < 8 ^ q := by rw [← hlo]; exact Nat.mod_lt _ (pz_p8 q)
  generalize hhi : B / 8 ^ q / 8 = hi at e1 e2
  have eB : B = 2 ^ (3 * (q + 1)) * hi + lo := by
    rw [← pz_p2, ← e3, e1, Nat.pow_succ, Nat.mul_assoc]
  have hp : 8 ^ (q + 1) = 8 ^ q * 8 := Nat.pow_succ ..
  have hlo3 : lo < 2 ^ (3 * (q + 1)) := by rw [← pz_p2, hp]; omega
  have hmid : 2 ^ (3 * q) * d + lo < 2 ^ (3 * (q + 1)) := by
    rw [← pz_p2, ← pz_p2, hp]
    have : 8 ^ q * d ≤ 8 ^ q * 7 := Nat.mul_le_mul_left _ (by omega)
    omega
  have hx : d * 8 ^ q = 2 ^ (3 * q) * d := by rw [← pz_p2, Nat.mul_comm]
  rw [hx, eB, Nat.two_pow_add_eq_or_of_lt hlo3, Nat.or_assoc, Nat.or_comm lo, ← Nat.two_pow_add_eq_or_of_lt (by rw [← pz_p2]; exact hlo2) d, ← Nat.two_pow_add_eq_or_of_lt hmid, ← Nat.two_pow_add_eq_or_of_lt hlo3]
  omega
theorem pz_dg_put {B q d : Nat} (h0 : pz_dg B q = 0) (hd : d < 8) (p : Nat) : pz_dg (B + d * 8 ^ q) p = if p = q then d else pz_dg B p := by
  unfold pz_dg at h0 ⊢
  by_cases h : p = q
  · subst h
    rw [if_pos rfl, Nat.add_mul_div_right _ _ (pz_p8 p)]
    omega
  · rw [if_neg h]
    by_cases hlt : p < q
    · have h5 : 8 ^ q = 8 ^ p * (8 * 8 ^ (q - p - 1)) := by
        rw [← Nat.mul_assoc, ← Nat.pow_succ, ← Nat.pow_add]
        congr 1
        omega
      have h6 : d * 8 ^ q = 8 ^ p * (8 * (d * 8 ^ (q - p - 1))) := by
        rw [h5]
        simp only [Nat.mul_left_comm]
      rw [h6, Nat.add_mul_div_left _ _ (pz_p8 p), Nat.add_mul_mod_self_left]
    · have hp : p = q + 1 + (p - q - 1) := by omega
      have e1 : ∀ x : Nat, x / 8 ^ p = x / 8 ^ q / 8 / 8 ^ (p - q - 1) := fun x => by
        rw [Nat.div_div_eq_div_mul, Nat.div_div_eq_div_mul, ← Nat.mul_assoc, ← Nat.pow_succ, ← Nat.pow_add]
        congr 2
      rw [e1, e1, Nat.add_mul_div_right _ _ (pz_p8 q)]
      congr 2
      omega
theorem pz_put_lt {B q d n : Nat} (hB : B < 8 ^ n) (h0 : pz_dg B q = 0) (hd : d < 8) (hq : q < n) : B + d * 8 ^ q < 8 ^ n := by
  have h1 : B + d * 8 ^ q = pz_mk (pz_dg (B + d * 8 ^ q)) n := by
    have h2 := pz_or_put h0 hd
    have h3 : d * 8 ^ q < 2 ^ (3 * n) := by
      have h4 : d * 8 ^ q < 8 * 8 ^ q := Nat.mul_lt_mul_of_pos_right hd (pz_p8 q)
      have h5 : 8 * 8 ^ q ≤ 8 ^ n := by rw [Nat.mul_comm, ← Nat.pow_succ]; exact Nat.pow_le_pow_right (by decide) (by omega)
      rw [← pz_p2]
      omega
    have h6 : B ||| d * 8 ^ q < 2 ^ (3 * n) := Nat.or_lt_two_pow (by rw [← pz_p2]; exact hB) h3
    rw [h2, ← pz_p2] at h6
    rw [pz_mk_dg, Nat.mod_eq_of_lt h6]
  rw [h1]
  exact pz_mk_lt (fun p _ => pz_dg_lt _ _)
theorem pz_dg_0 (p : Nat) : pz_dg 0 p = 0 := by simp [pz_dg]
theorem pz_ushrX (x s : Int32) (k : Nat) (hs : ((s.toUInt32 &&& Int32.toUInt32 31).toBitVec % 32).toNat = k) : (x.toUInt32 >>> (s.toUInt32 &&& Int32.toUInt32 31)).toInt32 = nI (x.toBitVec.toNat / 2 ^ k) := by
  apply Int32.toBitVec_inj.mp
  apply BitVec.eq_of_toNat_eq
  rw [pk_ushr x s k hs, pk_tn]
  have := x.toBitVec.isLt
  exact Nat.lt_of_le_of_lt (Nat.div_le_self _ _) this
