/-! PURE: what ties the program to the reference -/
theorem pz_and_sl (a k : Nat) : a &&& (7 <<< k) = ((a >>> k) &&& 7) <<< k := by
  apply Nat.eq_of_testBit_eq
  intro i
  by_cases h : k ≤ i
  · simp [Nat.testBit_and, Nat.testBit_shiftLeft, Nat.testBit_shiftRight, h, Nat.add_sub_cancel' h]
  · simp [Nat.testBit_and, Nat.testBit_shiftLeft, h]
theorem pz_and7n (d : Nat) (h : d < 8) : d &&& 7 = d := by
  rw [show (7 : Nat) = 2 ^ 3 - 1 from rfl, Nat.and_two_pow_sub_one_eq_mod, Nat.mod_eq_of_lt h]
theorem pz_7sl (p : Nat) : 7 * 8 ^ p = 7 <<< (3 * p) := by rw [Nat.shiftLeft_eq, pz_p2]
theorem pz_clr0 {c p : Nat} (h : pz_dg c p = 0) : c &&& 7 * 8 ^ p = 0 := by
  rw [pz_7sl, pz_and_sl, Nat.shiftRight_eq_div_pow, ← pz_p2, show (7 : Nat) = 2 ^ 3 - 1 from rfl, Nat.and_two_pow_sub_one_eq_mod]
  have : c / 8 ^ p % 2 ^ 3 = 0 := h
  rw [this, Nat.zero_shiftLeft]
theorem pz_clr1 {d p : Nat} (h : d < 8) : d * 8 ^ p &&& 7 * 8 ^ p = d * 8 ^ p := by
  rw [pz_7sl, pz_and_sl, Nat.shiftRight_eq_div_pow, ← pz_p2, Nat.mul_div_cancel _ (pz_p8 p), pz_and7n d h, Nat.shiftLeft_eq, pz_p2]
theorem pz_bv {C E M : BitVec 32} (h1 : C &&& M = 0#32) (h2 : E &&& M = E) : (C ||| E) &&& (M ^^^ BitVec.allOnes 32) = C := by
  apply BitVec.eq_of_getLsbD_eq
  intro i hi
  have e1 := congrArg (fun x => x.getLsbD i) h1
  have e2 := congrArg (fun x => x.getLsbD i) h2
  simp only [BitVec.getLsbD_and, BitVec.getLsbD_zero] at e1 e2
  simp only [BitVec.getLsbD_and, BitVec.getLsbD_or, BitVec.getLsbD_xor, BitVec.getLsbD_allOnes, hi, decide_true]
  cases hC : C.getLsbD i <;> cases hM : M.getLsbD i <;> cases hE : E.getLsbD i <;> simp_all
theorem pz_clear {c d p : Nat} (hp : p < 8) (hc : c + d * 8 ^ p < 2 ^ 24) (h0 : pz_dg c p = 0) (hd : d < 8) : nI (c + d * 8 ^ p) &&& (nI (7 * 8 ^ p) ^^^ (-1)) = nI c := by
  rw [← pz_or_put h0 hd, ← pz_nI_or]
  have hc2 : c < 2 ^ 32 := by omega
  have hd2 : d * 8 ^ p < 2 ^ 32 := by omega
  have h7 : 7 * 8 ^ p < 2 ^ 32 := by have := pz_p8lt hp; omega
  apply Int32.toBitVec_inj.mp
  show ((nI c).toBitVec ||| (nI (d * 8 ^ p)).toBitVec) &&& ((nI (7 * 8 ^ p)).toBitVec ^^^ (-1 : Int32).toBitVec) = (nI c).toBitVec
  rw [show (-1 : Int32).toBitVec = BitVec.allOnes 32 from by decide]
  apply pz_bv
  · apply BitVec.eq_of_toNat_eq
    rw [BitVec.toNat_and, pk_tn hc2, pk_tn h7, pz_clr0 h0]; rfl
  · apply BitVec.eq_of_toNat_eq
    rw [BitVec.toNat_and, pk_tn hd2, pk_tn h7, pz_clr1 hd]
/-- a state with another label at a place -/
def pz_lab (sa p j : Nat) : Nat := sa - pz_dg sa p * 8 ^ p + j * 8 ^ p
theorem pz_lab_le (sa p : Nat) : pz_dg sa p * 8 ^ p ≤ sa := by
  unfold pz_dg
  exact Nat.le_trans (Nat.mul_le_mul_right _ (Nat.mod_le _ _)) (Nat.div_mul_le_self _ _)
theorem pz_lab_c {sa p : Nat} : pz_dg (sa - pz_dg sa p * 8 ^ p) p = 0 ∧ ∀ i, i ≠ p → pz_dg (sa - pz_dg sa p * 8 ^ p) i = pz_dg sa i := by
  have hle := pz_lab_le sa p
  have hz : pz_dg (sa - pz_dg sa p * 8 ^ p) p = 0 := by
    have e1 : sa = (sa - pz_dg sa p * 8 ^ p) + pz_dg sa p * 8 ^ p := by omega
    have e2 : sa / 8 ^ p = (sa - pz_dg sa p * 8 ^ p) / 8 ^ p + pz_dg sa p := by
      have := Nat.add_mul_div_right (sa - pz_dg sa p * 8 ^ p) (pz_dg sa p) (pz_p8 p)
      rw [← e1] at this; exact this
    show (sa - pz_dg sa p * 8 ^ p) / 8 ^ p % 8 = 0
    have e3 : pz_dg sa p = sa / 8 ^ p % 8 := rfl
    omega
  refine ⟨hz, fun i hi => ?_⟩
  have h := pz_dg_put hz (pz_dg_lt sa p) i
  rw [Nat.sub_add_cancel hle, if_neg hi] at h
  exact h.symm
theorem pz_lab_dg {sa p j i : Nat} (hj : j < 8) : pz_dg (pz_lab sa p j) i = if i = p then j else pz_dg sa i := by
  unfold pz_lab
  rw [pz_dg_put pz_lab_c.1 hj]
  by_cases e : i = p
  · rw [if_pos e, if_pos e]
  · rw [if_neg e, if_neg e, pz_lab_c.2 i e]
theorem pz_lab_lt {n sa p j : Nat} (hs : sa < 8 ^ n) (hp : p < n) (hj : j < 8) : pz_lab sa p j < 8 ^ n := pz_put_lt (by omega) pz_lab_c.1 hj hp
theorem pz_lab_I {n sa p j : Nat} (hn : n ≤ 8) (hs : sa < 8 ^ n) (hp : p < n) (hj : j < 8) : (nI sa &&& (nI (7 * 8 ^ p) ^^^ (-1))) ||| nI (j * 8 ^ p) = nI (pz_lab sa p j) := by
  have h24 := pz_lt31 hn hs
  have hle := pz_lab_le sa p
  have h1 := pz_clear (c := sa - pz_dg sa p * 8 ^ p) (d := pz_dg sa p) (p := p) (by omega) (by omega) pz_lab_c.1 (pz_dg_lt _ _)
  rw [Nat.sub_add_cancel hle] at h1
  rw [h1, pz_nI_or, pz_or_put pz_lab_c.1 hj]
  rfl
theorem zs_lab {n sa p j : Nat} {sb : Nat → Int32} (h : zs_ok n sb sa) (hp : p < n) (hj : j < 8) : zs_ok n (upd sb p (nI j)) (pz_lab sa p j) := by
  refine ⟨pz_lab_lt h.1 hp hj, fun i hi => ?_⟩
  rw [pz_lab_dg hj]
  by_cases e : i = p
  · subst e; rw [pk_us, if_pos rfl]
  · rw [pk_un e, if_neg e]; exact h.2 i hi
/-- counts of layers -/
theorem zcn_len (S : pz_S) (D : Nat) : ∀ l : List Nat, zcn S D l = (l.filter (fun x => decide (S.2.1 x = some D))).length
  | [] => rfl
  | x :: l => by
    show (if S.2.1 x = some D then 1 else 0) + zcn S D l = _
    rw [zcn_len S D l, List.filter_cons]
    by_cases e : S.2.1 x = some D
    · rw [if_pos e, if_pos (by rw [e]; exact decide_eq_true rfl), List.length_cons]; omega
    · rw [if_neg e, if_neg (by simp [e])]; omega
theorem zcn_eq {S T : pz_S} {D : Nat} (hS : pz_ok S) (hT : pz_ok T) (h : ∀ x, S.2.1 x = some D ↔ T.2.1 x = some D) : zcn S D S.1 = zcn T D T.1 := by
  rw [zcn_len, zcn_len]
  refine Nat.le_antisymm ?_ ?_
  · refine List.Nodup.length_le_of_subset (hS.1.filter _) (fun x hx => ?_)
    have h2 : S.2.1 x = some D := of_decide_eq_true (List.mem_filter.mp hx).2
    exact List.mem_filter.mpr ⟨pz_far_mem hT ((h x).mp h2), decide_eq_true ((h x).mp h2)⟩
  · refine List.Nodup.length_le_of_subset (hT.1.filter _) (fun x hx => ?_)
    have h2 : T.2.1 x = some D := of_decide_eq_true (List.mem_filter.mp hx).2
    exact List.mem_filter.mpr ⟨pz_far_mem hS ((h x).mpr h2), decide_eq_true ((h x).mpr h2)⟩
theorem zcn_cwi {S : pz_S} {D m0 m1 : Nat} (hok : pz_ok S) (h0 : bl_cw S D m0) (h1 : bl_cw S (D + 1) m1) : ∀ i, i ≤ S.1.length → zcn S D (S.1.take i) = min i m1 - min i m0
  | 0, _ => by simp [zcn, pz_sum]
  | i + 1, hi => by
    obtain ⟨x, hx⟩ : ∃ x, S.1[i]? = some x := ⟨_, List.getElem?_eq_getElem (by omega)⟩
    obtain ⟨e, he⟩ := pz_mem_far hok (List.mem_of_getElem? hx)
    have hmm := bl_cw_mono hok h0 h1
    rw [zcn_s hx, zcn_cwi hok h0 h1 i (by omega)]
    by_cases a : i < m0
    · have := h0.2.1 i x e a hx he
      rw [if_neg (by rw [he]; intro q; have := Option.some.inj q; omega)]
      omega
    · have b0 := h0.2.2 i x e (by omega) hx he
      by_cases b : i < m1
      · have := h1.2.1 i x e b hx he
        rw [if_pos (by rw [he, show e = D by omega])]
        omega
      · have := h1.2.2 i x e (by omega) hx he
        rw [if_neg (by rw [he]; intro q; have := Option.some.inj q; omega)]
        omega
theorem zcn_cw {S : pz_S} {D m0 m1 : Nat} (hok : pz_ok S) (h0 : bl_cw S D m0) (h1 : bl_cw S (D + 1) m1) : zcn S D S.1 = m1 - m0 := by
  have h := zcn_cwi hok h0 h1 S.1.length (Nat.le_refl _)
  rw [zcn_all] at h
  rw [h, Nat.min_eq_right h1.1, Nat.min_eq_right h0.1]
theorem zcn_none {S : pz_S} {D : Nat} (h : ∀ x, S.2.1 x ≠ some D) : zcn S D S.1 = 0 := pz_sum_zero (fun x _ => if_neg (h x))
/-- the program's count of a layer is the reference's -/
theorem zcn_ball {s : Nat → List Nat} {a ly dp D c9 : Nat} {cb : Bool} {S T : pz_S} (hS : pz_inv s a S.1.length S) (hT : pz_ball s a ly dp cb T) (hD : cb = true ∨ D ≤ dp) (h : (dp < D ∧ c9 = 0) ∨ (D ≤ dp ∧ ∃ m0 m1, bl_cw T D m0 ∧ bl_cw T (D + 1) m1 ∧ m0 ≤ m1 ∧ c9 = m1 - m0)) : zcn S D S.1 = c9 := by
  have hiff : ∀ x, S.2.1 x = some D ↔ T.2.1 x = some D := fun x => (zk_dist hS).trans ⟨fun q => pz_ball_near hT (hD.symm) q, fun q => pz_ball_exact hT q⟩
  rw [zcn_eq hS.1 (pz_ball_ok hT) hiff]
  rcases h with ⟨h1, rfl⟩ | ⟨_, m0, m1, h0, h1, _, rfl⟩
  · exact zcn_none (fun x q => by have := pz_ball_le hT q; omega)
  · exact zcn_cw (pz_ball_ok hT) h0 h1
/-- the program's depth is the reference's -/
theorem zdp_ball {s : Nat → List Nat} {a ly dp y d : Nat} {S T : pz_S} (hS : pz_inv s a S.1.length S) (hT : pz_ball s a ly dp true T) (hy : S.1[S.1.length - 1]? = some y) (hd : S.2.1 y = some d) : dp = d := by
  have hle : d ≤ dp := pz_ball_le hT (pz_ball_near hT (Or.inr rfl) ((zk_dist hS).mp hd))
  obtain ⟨x, hx⟩ : ∃ x, T.1[ly]? = some x := ⟨_, List.getElem?_eq_getElem hT.2.1⟩
  have hxd : T.2.1 x = some dp := (pz_ball_last hT).mpr ⟨ly, Nat.le_refl _, hx⟩
  have hxs : S.2.1 x = some dp := (zk_dist hS).mpr (pz_ball_exact hT hxd)
  obtain ⟨i, hi⟩ := List.getElem?_of_mem (pz_far_mem hS.1 hxs)
  have hil := (List.getElem?_eq_some_iff.mp hi).1
  have := hS.2.2.2.1 i (S.1.length - 1) x y dp d (by omega) hi hy hxs hd
  omega
