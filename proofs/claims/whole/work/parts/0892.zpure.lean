/-! PURE: the reference's own rows -/
def zm_ok (n k : Nat) (to fo : Nat → Int32) (sg tu : Nat → Nat → Nat) (od : Nat → Nat) : Prop := ∀ o, o < k → pz_perm n (sg o) (tu o) ∧ pz_od n (sg o) (od o) ∧ fo o = nI (od o) ∧ ∀ p, p < n → to (8 * o + p) = nI (sg o p)
def zs_ok (n : Nat) (sb : Nat → Int32) (sa : Nat) : Prop := sa < 8 ^ n ∧ ∀ p, p < n → sb p = nI (pz_dg sa p)
theorem zm_ok_add {n k : Nat} {to to' fo : Nat → Int32} {sg tu : Nat → Nat → Nat} {od : Nat → Nat} (hn : n ≤ 8) (h : zm_ok n k to fo sg tu od) (h1 : ∀ p, p < 8 → to' (8 * k + p) = nI p) (h2 : ∀ i, i < 8 * k → to' i = to i) : zm_ok n (k + 1) to' (upd fo k (nI 1)) (pz_up sg k (fun p => p)) (pz_up tu k (fun p => p)) (pz_up od k 1) := by
  intro o ho
  by_cases e : o = k
  · subst e
    rw [pz_up_s, pz_up_s, pz_up_s, pk_us]
    exact ⟨fun p hp => ⟨hp, hp, rfl, rfl⟩, pz_od_id n, rfl, fun p hp => h1 p (by omega)⟩
  · rw [pz_up_n _ _ e, pz_up_n _ _ e, pz_up_n _ _ e, pk_un e]
    obtain ⟨a1, a2, a3, a4⟩ := h o (by omega)
    exact ⟨a1, a2, a3, fun p hp => by rw [h2 _ (by omega)]; exact a4 p hp⟩
theorem zm_ok_len {n k mo x y o' : Nat} {to fo : Nat → Int32} {sg tu : Nat → Nat → Nat} {od : Nat → Nat} (hn : n ≤ 8) (h : zm_ok n k to fo sg tu od) (hm : mo < k) (hx : x < n) (hy : y < n) (hxy : x ≠ y) (hf : sg mo y = y) (ho : pz_od n (pz_cyc (sg mo) x y) o') : zm_ok n k (upd (upd to (8 * mo + y) (nI (sg mo x))) (8 * mo + x) (nI y)) (upd fo mo (nI o')) (pz_up sg mo (pz_cyc (sg mo) x y)) (pz_up tu mo (pz_cyi (sg mo) (tu mo) x y)) (pz_up od mo o') := by
  intro o hok
  obtain ⟨a1, a2, a3, a4⟩ := h o hok
  by_cases e : o = mo
  · subst e
    rw [pz_up_s, pz_up_s, pz_up_s, pk_us]
    refine ⟨pz_cyc_ok a1 hx hy hxy hf, ho, rfl, fun p hp => ?_⟩
    unfold pz_cyc
    by_cases e1 : p = x
    · subst e1; rw [pk_us, pz_up_n _ _ hxy, pz_up_s]
    · rw [pk_un (by omega)]
      by_cases e2 : p = y
      · subst e2; rw [pk_us, pz_up_s]
      · rw [pk_un (by omega), pz_up_n _ _ e2, pz_up_n _ _ e1]; exact a4 p hp
  · rw [pz_up_n _ _ e, pz_up_n _ _ e, pz_up_n _ _ e, pk_un e]
    refine ⟨a1, a2, a3, fun p hp => ?_⟩
    rw [pk_un (by omega), pk_un (by omega)]
    exact a4 p hp
theorem zs_mk_or {sa i : Nat} : pz_mk (pz_dg sa) i ||| pz_dg sa i * 8 ^ i = pz_mk (pz_dg sa) (i + 1) := by
  rw [pz_or_put ?_ (pz_dg_lt _ _)]
  · rfl
  · unfold pz_dg
    rw [Nat.div_eq_of_lt (pz_mk_lt (f := fun p => sa / 8 ^ p % 8) (fun p _ => Nat.mod_lt _ (by decide)))]
theorem zs_mk_all {n sa : Nat} (h : sa < 8 ^ n) : pz_mk (pz_dg sa) n = sa := by rw [pz_mk_dg, Nat.mod_eq_of_lt h]
theorem zs_mk_le {n sa : Nat} (hn : n ≤ 8) : ∀ i, i ≤ n → pz_mk (pz_dg sa) i < 2 ^ 24 := fun i hi => pz_lt31 (show i ≤ 8 by omega) (pz_mk_lt (fun p _ => pz_dg_lt _ _))
/-- undoing a move: the digits one by one -/
def zm_bb (n c i : Nat) (g : Nat → Nat) (B : Nat) : Prop := B < 8 ^ n ∧ ∀ x, x < n → pz_dg B x = if x < i then pz_dg c (g x) else 0
theorem zm_bb_0 (n c : Nat) (g : Nat → Nat) : zm_bb n c 0 g 0 := ⟨pz_p8 n, fun x _ => by rw [pz_dg_0, if_neg (by omega)]⟩
theorem zm_bb_z {n c i B : Nat} {g : Nat → Nat} (h : zm_bb n c i g B) (hi : i < n) : pz_dg B i = 0 := by rw [h.2 i hi, if_neg (by omega)]
theorem zm_bb_s {n c i B : Nat} {g : Nat → Nat} (h : zm_bb n c i g B) (hi : i < n) : zm_bb n c (i + 1) g (B + pz_dg c (g i) * 8 ^ i) := by
  have h0 := zm_bb_z h hi
  refine ⟨pz_put_lt h.1 h0 (pz_dg_lt _ _) hi, fun x hx => ?_⟩
  rw [pz_dg_put h0 (pz_dg_lt _ _)]
  by_cases e : x = i
  · rw [if_pos e, e, if_pos (by omega)]
  · rw [if_neg e, h.2 x hx]
    by_cases q : x < i
    · rw [if_pos q, if_pos (by omega)]
    · rw [if_neg q, if_neg (by omega)]
theorem zm_bb_e {n c B : Nat} {g : Nat → Nat} (h : zm_bb n c n g B) (hc : c < 8 ^ n) : B = pz_act n g c := by
  refine pz_ext h.1 (pz_act_lt hc) (fun x hx => ?_)
  rw [h.2 x hx, if_pos hx, pz_act_dg hc hx]
theorem zm_or {n c i B : Nat} {g : Nat → Nat} (h : zm_bb n c i g B) (hi : i < n) : nI B ||| nI (pz_dg c (g i) * 8 ^ i) = nI (B + pz_dg c (g i) * 8 ^ i) := by
  rw [pz_nI_or, pz_or_put (zm_bb_z h hi) (pz_dg_lt _ _)]
/-- the reference's hash -/
def zh_hh (c : Nat) : Nat := (nI c * nI 40503).toBitVec.toNat / 2 ^ 7 % 65536
theorem zh_lt (c : Nat) : zh_hh c < 65536 := Nat.mod_lt _ (by decide)
theorem zh_ush (c : Nat) : ((nI c * nI 40503).toUInt32 >>> ((nI 7).toUInt32 &&& Int32.toUInt32 31)).toInt32 = nI ((nI c * nI 40503).toBitVec.toNat / 2 ^ 7) := pz_ushrX _ _ 7 (by decide)
theorem zh_small (c : Nat) : (nI c * nI 40503).toBitVec.toNat / 2 ^ 7 < 2 ^ 31 := by
  have := (nI c * nI 40503).toBitVec.isLt
  rw [Nat.div_lt_iff_lt_mul (by decide)]
  omega
theorem zh_rem (c : Nat) : nI ((nI c * nI 40503).toBitVec.toNat / 2 ^ 7) - nI ((nI c * nI 40503).toBitVec.toNat / 2 ^ 7) / nI 65536 * nI 65536 = nI ((zh_hh c + 0) % 65536) := by
  rw [pk_rem (zh_small c) (by decide) (by decide), Nat.add_zero, Nat.mod_eq_of_lt (zh_lt c)]
  rfl
theorem zh_next (a j : Nat) : nI ((a + j) % 65536 + 1) - nI ((a + j) % 65536 + 1) / nI 65536 * nI 65536 = nI ((a + (j + 1)) % 65536) := by
  have h2 : (a + j) % 65536 < 65536 := Nat.mod_lt _ (by decide)
  rw [pk_rem (by omega) (by decide) (by decide), pz_next 65536 a j]
/-- the reference's table -/
def zb_ok (S : pz_S) (st sp : Nat → Int32) (wy : Nat → Int64) (se : Nat → Int32) : Prop :=
  pz_ok S ∧ (∀ i x, S.1[i]? = some x → st i = nI x ∧ (∃ d, S.2.1 x = some d ∧ sp i = nI d) ∧ wy i = S.2.2 x) ∧ ∃ s : Nat → Nat, (∀ j, j < 65536 → se j = nI (s j)) ∧ pz_ht 65536 zh_hh S.1 s
theorem zb_take {d c j : Nat} {S : pz_S} {st sp se : Nat → Int32} {wy : Nat → Int64} {s : Nat → Nat} (h : zb_ok S st sp wy se) (hs : ∀ j, j < 65536 → se j = nI (s j)) (ht : pz_ht 65536 zh_hh S.1 s) (hc : S.2.1 c = none) (hj : j < 65536) (h0 : s ((zh_hh c + j) % 65536) = 0) (hl : ∀ j', j' < j → ¬ pz_stop 65536 zh_hh S.1 s c j') : zb_ok (pz_take d S c) (upd st S.1.length (nI c)) (upd sp S.1.length (nI d)) (vp_updL wy S.1.length 0) (upd se ((zh_hh c + j) % 65536) (nI (S.1.length + 1))) := by
  have hT : pz_take d S c = (S.1 ++ [c], pz_up S.2.1 c (some d), pz_up S.2.2 c 0) := if_pos hc
  refine ⟨pz_take_ok h.1, fun i x hx => ?_, pz_up s ((zh_hh c + j) % 65536) (S.1.length + 1), fun i hi => ?_, ?_⟩
  · rw [hT] at hx ⊢
    show upd st S.1.length (nI c) i = nI x ∧ (∃ d9, pz_up S.2.1 c (some d) x = some d9 ∧ upd sp S.1.length (nI d) i = nI d9) ∧ vp_updL wy S.1.length 0 i = pz_up S.2.2 c 0 x
    have hx : (S.1 ++ [c])[i]? = some x := hx
    by_cases e : i = S.1.length
    · subst e
      rw [List.getElem?_append_right (Nat.le_refl _), Nat.sub_self] at hx
      have : x = c := (Option.some.inj hx).symm
      subst this
      rw [pk_us, pk_us, pk_uLs, pz_up_s, pz_up_s]
      exact ⟨rfl, ⟨d, rfl, rfl⟩, rfl⟩
    · have hl := (List.getElem?_eq_some_iff.mp hx).1
      rw [List.length_append, List.length_singleton] at hl
      rw [List.getElem?_append_left (by omega)] at hx
      have hne : x ≠ c := fun q => by
        have := (h.1.2 x).mp (List.mem_of_getElem? hx)
        rw [q] at this; exact this hc
      rw [pk_un e, pk_un e, pk_uLn e, pz_up_n _ _ hne, pz_up_n _ _ hne]
      exact h.2.1 i x hx
  · by_cases e : i = (zh_hh c + j) % 65536
    · subst e; rw [pk_us, pz_up_s]
    · rw [pk_un e, pz_up_n _ _ e]; exact hs i hi
  · rw [hT]
    exact pz_ht_put ht (by decide) hj h0 hl
theorem zb_bump {d j x : Nat} {w : Int64} {S : pz_S} {st sp se : Nat → Int32} {wy : Nat → Int64} (h : zb_ok S st sp wy se) (hj : S.1[j]? = some x) (hx : S.2.1 x = some d) : zb_ok (pz_bump d w S x) st sp (vp_updL wy j (wy j + w)) se := by
  have hT : pz_bump d w S x = (S.1, S.2.1, pz_up S.2.2 x (S.2.2 x + w)) := if_pos hx
  rw [hT]
  refine ⟨h.1, fun i y hy => ?_, h.2.2⟩
  obtain ⟨h1, h2, h3⟩ := h.2.1 i y hy
  refine ⟨h1, h2, ?_⟩
  show vp_updL wy j (wy j + w) i = pz_up S.2.2 x (S.2.2 x + w) y
  by_cases e : i = j
  · subst e
    have : y = x := Option.some.inj (hy.symm.trans hj)
    subst this
    rw [pk_uLs, pz_up_s, h3]
  · have hne : y ≠ x := fun q => e (by subst q; exact pz_getinj h.1.1 hy hj)
    rw [pk_uLn e, pz_up_n _ _ hne]
    exact h3
theorem zb_far {S : pz_S} {st sp se : Nat → Int32} {wy : Nat → Int64} (h : zb_ok S st sp wy se) {i x d : Nat} (hi : S.1[i]? = some x) (hd : S.2.1 x = some d) : sp i = nI d := by
  obtain ⟨d', h1, h2⟩ := (h.2.1 i x hi).2.1
  rw [h2, Option.some.inj (h1.symm.trans hd)]
