/-! PURE: the moves as the program holds them -/
/-- what aim writes -/
def mv_aim (M : Nat → Nat → Int32) (o x y : Nat) : Nat → Nat → Int32 := pz_up (pz_up M o (upd (M o) x (nI y))) (o + 6) (upd (pz_up M o (upd (M o) x (nI y)) (o + 6)) y (nI x))
theorem mv_aim_1 (M : Nat → Nat → Int32) (o x y : Nat) : mv_aim M o x y o = upd (M o) x (nI y) := by
  unfold mv_aim
  rw [pz_up_n _ _ (by omega), pz_up_s]
theorem mv_aim_2 (M : Nat → Nat → Int32) (o x y : Nat) : mv_aim M o x y (o + 6) = upd (M (o + 6)) y (nI x) := by
  unfold mv_aim
  rw [pz_up_s, pz_up_n _ _ (by omega)]
theorem mv_aim_n (M : Nat → Nat → Int32) {o x y i : Nat} (h1 : i ≠ o) (h2 : i ≠ o + 6) : mv_aim M o x y i = M i := by
  unfold mv_aim
  rw [pz_up_n _ _ h2, pz_up_n _ _ h1]
/-- the first state: label p at place p -/
def pz_first (n : Nat) : Nat := pz_mk (fun p => p) n
theorem pz_first_lt {n : Nat} (h : n ≤ 8) : pz_first n < 8 ^ n := pz_mk_lt (fun p hp => by omega)
theorem pz_first_dg {n : Nat} (h : n ≤ 8) : ∀ p, p < n → pz_dg (pz_first n) p = p := pz_dg_mk (f := fun p => p) (fun p hp => by omega)
theorem pz_first_or {i : Nat} (h : i < 8) : pz_first i ||| i * 8 ^ i = pz_first (i + 1) := by
  rw [pz_or_put ?_ h]
  · rfl
  · unfold pz_dg
    rw [Nat.div_eq_of_lt (pz_first_lt (by omega))]
theorem pz_div8 (c i : Nat) : c / 8 ^ i / 8 = c / 8 ^ (i + 1) := by rw [Nat.div_div_eq_div_mul, ← Nat.pow_succ]
theorem pz_lt31 {n c : Nat} (hn : n ≤ 8) (hc : c < 8 ^ n) : c < 2 ^ 24 := Nat.lt_of_lt_of_le hc (pz_p8le hn)
theorem pz_divlt {n c : Nat} (hn : n ≤ 8) (hc : c < 8 ^ n) (i : Nat) : c / 8 ^ i < 2 ^ 24 := Nat.lt_of_le_of_lt (Nat.div_le_self _ _) (pz_lt31 hn hc)
/-- while a move is done: B has what the first i places bring -/
def mv_br (n c i : Nat) (g : Nat → Nat) (B : Nat) : Prop := B < 8 ^ n ∧ ∀ x, x < n → pz_dg B x = if g x < i then pz_dg c (g x) else 0
theorem mv_br_0 (n c : Nat) (g : Nat → Nat) : mv_br n c 0 g 0 := ⟨pz_p8 n, fun x _ => by rw [pz_dg_0, if_neg (by omega)]⟩
theorem mv_br_z {n c i B : Nat} {f g : Nat → Nat} (hp : pz_perm n f g) (h : mv_br n c i g B) (hi : i < n) : pz_dg B (f i) = 0 := by
  rw [h.2 (f i) (hp i hi).1, (hp i hi).2.2.1, if_neg (by omega)]
theorem mv_br_s {n c i B : Nat} {f g : Nat → Nat} (hp : pz_perm n f g) (h : mv_br n c i g B) (hi : i < n) : mv_br n c (i + 1) g (B + pz_dg c i * 8 ^ f i) := by
  have h0 := mv_br_z hp h hi
  refine ⟨pz_put_lt h.1 h0 (pz_dg_lt _ _) (hp i hi).1, fun x hx => ?_⟩
  rw [pz_dg_put h0 (pz_dg_lt _ _)]
  by_cases e : x = f i
  · rw [if_pos e, e, (hp i hi).2.2.1, if_pos (by omega)]
  · rw [if_neg e, h.2 x hx]
    by_cases q : g x < i
    · rw [if_pos q, if_pos (by omega)]
    · rw [if_neg q, if_neg (fun z => e (by rw [← (hp x hx).2.2.2]; congr 1; omega))]
theorem mv_br_e {n c B : Nat} {f g : Nat → Nat} (hp : pz_perm n f g) (h : mv_br n c n g B) (hc : c < 8 ^ n) : B = pz_act n g c := by
  refine pz_ext h.1 (pz_act_lt hc) (fun x hx => ?_)
  rw [h.2 x hx, if_pos (hp x hx).2.1, pz_act_dg hc hx]
theorem mv_or {n c i B : Nat} {f g : Nat → Nat} (hp : pz_perm n f g) (h : mv_br n c i g B) (hi : i < n) : nI B ||| nI (pz_dg c i * 8 ^ f i) = nI (B + pz_dg c i * 8 ^ f i) := by
  rw [pz_nI_or, pz_or_put (mv_br_z hp h hi) (pz_dg_lt _ _)]
/-- the order, found by trying -/
theorem mv_od_at {n t : Nat} {f g : Nat → Nat} (hn : n ≤ 8) (h : pz_perm n f g) (h0 : 0 < t) (h1 : t ≤ 15) (hf : pz_it (pz_act n g) t (pz_first n) = pz_first n) (hl : ∀ j, 0 < j → j < t → pz_it (pz_act n g) j (pz_first n) ≠ pz_first n) : pz_od n f t :=
  ⟨h0, h1, (pz_first_fix h (pz_first_lt hn) (pz_first_dg hn) t).mp hf, fun j hj hjt q => hl j hj hjt ((pz_first_fix h (pz_first_lt hn) (pz_first_dg hn) j).mpr q)⟩
theorem mv_od_15 {n : Nat} {f g : Nat → Nat} (hn : n ≤ 8) (h : pz_perm n f g) (hl : ∀ j, 0 < j → j < 15 → pz_it (pz_act n g) j (pz_first n) ≠ pz_first n) : pz_od n f 15 := by
  obtain ⟨o, ho⟩ := pz_od_ex h hn
  by_cases e : o < 15
  · exact absurd ((pz_first_fix h (pz_first_lt hn) (pz_first_dg hn) o).mpr ho.2.2.1) (hl o ho.1 e)
  · have : o = 15 := by have := ho.2.1; omega
    rw [← this]; exact ho
/-- a move lengthened: x goes to y, y where x went -/
def pz_cyc (f : Nat → Nat) (x y : Nat) : Nat → Nat := pz_up (pz_up f x y) y (f x)
def pz_cyi (f g : Nat → Nat) (x y : Nat) : Nat → Nat := pz_up (pz_up g y x) (f x) y
theorem pz_cyc_ok {n x y : Nat} {f g : Nat → Nat} (h : pz_perm n f g) (hx : x < n) (hy : y < n) (hxy : x ≠ y) (hfy : f y = y) : pz_perm n (pz_cyc f x y) (pz_cyi f g x y) := by
  have hgy : g y = y := by have := (h y hy).2.2.1; rw [hfy] at this; exact this
  have hfx : f x ≠ y := fun e => hxy (by have := (h x hx).2.2.1; rw [e, hgy] at this; exact this.symm)
  have hfxn := (h x hx).1
  have hgfx := (h x hx).2.2.1
  intro p hp
  have ep := h p hp
  have c1 : pz_cyc f x y p = if p = y then f x else if p = x then y else f p := rfl
  have c2 : ∀ z, pz_cyc f x y z = if z = y then f x else if z = x then y else f z := fun _ => rfl
  have c3 : ∀ z, pz_cyi f g x y z = if z = f x then y else if z = y then x else g z := fun _ => rfl
  refine ⟨?_, ?_, ?_, ?_⟩
  · rw [c2]
    by_cases e1 : p = y
    · rw [if_pos e1]; exact hfxn
    · rw [if_neg e1]
      by_cases e2 : p = x
      · rw [if_pos e2]; exact hy
      · rw [if_neg e2]; exact ep.1
  · rw [c3]
    by_cases e1 : p = f x
    · rw [if_pos e1]; exact hy
    · rw [if_neg e1]
      by_cases e2 : p = y
      · rw [if_pos e2]; exact hx
      · rw [if_neg e2]; exact ep.2.1
  · rw [c2]
    by_cases e1 : p = y
    · rw [if_pos e1, c3, if_pos rfl, e1]
    · rw [if_neg e1]
      by_cases e2 : p = x
      · rw [if_pos e2, c3, if_neg (fun q => hfx q.symm), if_pos rfl, e2]
      · rw [if_neg e2, c3]
        have n1 : f p ≠ f x := fun q => e2 (by rw [← ep.2.2.1, q, hgfx])
        have n2 : f p ≠ y := fun q => e1 (by rw [← ep.2.2.1, q, hgy])
        rw [if_neg n1, if_neg n2, ep.2.2.1]
  · rw [c3]
    by_cases e1 : p = f x
    · rw [if_pos e1, c2, if_pos rfl, e1]
    · rw [if_neg e1]
      by_cases e2 : p = y
      · rw [if_pos e2, c2, if_neg hxy, if_pos rfl, e2]
      · rw [if_neg e2, c2]
        have n1 : g p ≠ y := fun q => e2 (by rw [← ep.2.2.2, q, hfy])
        have n2 : g p ≠ x := fun q => e1 (by rw [← ep.2.2.2, q])
        rw [if_neg n1, if_neg n2, ep.2.2.2]
/-- the rows hold the moves: sg where a place's label goes, tu where it comes from, od the orders -/
def mv_ok (n k : Nat) (f : Nat → Int32) (M : Nat → Nat → Int32) (sg tu : Nat → Nat → Nat) (od : Nat → Nat) : Prop := ∀ o, o < k → pz_perm n (sg o) (tu o) ∧ pz_od n (sg o) (od o) ∧ f o = nI (od o) ∧ ∀ p, p < n → M o p = nI (sg o p) ∧ M (o + 6) p = nI (tu o p)
theorem pz_od_id (n : Nat) : pz_od n (fun p => p) 1 := ⟨by omega, by omega, fun p _ => rfl, fun t h0 h1 => by omega⟩
theorem mv_ok_add {n k : Nat} {f : Nat → Int32} {M M' : Nat → Nat → Int32} {sg tu : Nat → Nat → Nat} {od : Nat → Nat} (hn : n ≤ 8) (hk : k < 6) (h : mv_ok n k f M sg tu od) (h1 : ∀ p, p < 8 → M' k p = nI p ∧ M' (k + 6) p = nI p) (h2 : ∀ i, i ≠ k → i ≠ k + 6 → M' i = M i) : mv_ok n (k + 1) (upd f k (nI 1)) M' (pz_up sg k (fun p => p)) (pz_up tu k (fun p => p)) (pz_up od k 1) := by
  intro o ho
  by_cases e : o = k
  · subst e
    rw [pz_up_s, pz_up_s, pz_up_s, pk_us]
    exact ⟨fun p hp => ⟨hp, hp, rfl, rfl⟩, pz_od_id n, rfl, fun p hp => h1 p (by omega)⟩
  · rw [pz_up_n _ _ e, pz_up_n _ _ e, pz_up_n _ _ e, pk_un e]
    obtain ⟨a1, a2, a3, a4⟩ := h o (by omega)
    refine ⟨a1, a2, a3, fun p hp => ?_⟩
    rw [h2 o (by omega) (by omega), h2 (o + 6) (by omega) (by omega)]
    exact a4 p hp
theorem mv_ok_len {n k mo x y o' : Nat} {f : Nat → Int32} {M : Nat → Nat → Int32} {sg tu : Nat → Nat → Nat} {od : Nat → Nat} (hk : k ≤ 6) (h : mv_ok n k f M sg tu od) (hm : mo < k) (hx : x < n) (hy : y < n) (hxy : x ≠ y) (hf : sg mo y = y) (ho : pz_od n (pz_cyc (sg mo) x y) o') : mv_ok n k (upd f mo (nI o')) (mv_aim (mv_aim M mo x y) mo y (sg mo x)) (pz_up sg mo (pz_cyc (sg mo) x y)) (pz_up tu mo (pz_cyi (sg mo) (tu mo) x y)) (pz_up od mo o') := by
  intro o hok
  by_cases e : o = mo
  · subst e
    obtain ⟨a1, a2, a3, a4⟩ := h o hok
    rw [pz_up_s, pz_up_s, pz_up_s, pk_us]
    refine ⟨pz_cyc_ok a1 hx hy hxy hf, ho, rfl, fun p hp => ?_⟩
    rw [mv_aim_1, mv_aim_1, mv_aim_2, mv_aim_2]
    constructor
    · by_cases e1 : p = y
      · subst e1; rw [pk_us]; unfold pz_cyc; rw [pz_up_s]
      · rw [pk_un e1]; unfold pz_cyc; rw [pz_up_n _ _ e1]
        by_cases e2 : p = x
        · subst e2; rw [pk_us, pz_up_s]
        · rw [pk_un e2, pz_up_n _ _ e2]; exact (a4 p hp).1
    · by_cases e1 : p = sg o x
      · subst e1; rw [pk_us]; unfold pz_cyi; rw [pz_up_s]
      · rw [pk_un e1]; unfold pz_cyi; rw [pz_up_n _ _ e1]
        by_cases e2 : p = y
        · subst e2; rw [pk_us, pz_up_s]
        · rw [pk_un e2, pz_up_n _ _ e2]; exact (a4 p hp).2
  · rw [pz_up_n _ _ e, pz_up_n _ _ e, pz_up_n _ _ e, pk_un e]
    obtain ⟨a1, a2, a3, a4⟩ := h o hok
    refine ⟨a1, a2, a3, fun p hp => ?_⟩
    rw [mv_aim_n _ (by omega) (by omega), mv_aim_n _ (by omega) (by omega), mv_aim_n _ (by omega) (by omega), mv_aim_n _ (by omega) (by omega)]
    exact a4 p hp
