/-! THE LAW: its entry -/
theorem wz_L_tbl : ∀ w ∈ wz_L, w ∈ lw_tbl := by decide +kernel

theorem kw_39 : (Cond.instantiable "TwoEndSearch" 5 : Cond) ∈ bigW := bigW_of 39 (by decide +kernel) (by decide +kernel)
theorem kw_450 : (Cond.instantiable "TwoEndSearchModel" 22 : Cond) ∈ bigW := bigW_of 450 (by decide +kernel) (by decide +kernel)
theorem lw_world {args : Array Value} {s : State} (htbl : ∀ w ∈ lw_tbl, w.before args s = true) : ∃ (D : va_G) (q : wz_Q), va_K D vwCl (wz_ty q) s ∧ wz_N wz_L s ∧ ∀ w ∈ bigW, w.before args s = true := by
  have hts : ∀ w ∈ bigW, w.before args s = true := fun w h => htbl w (List.mem_filter.mp h).1
  obtain ⟨c0, iS0, hKn0⟩ := u_known (C := R_M) (T := T_M) (N := 4) (n := 4) hts i_M (hts _ kw_53)
  obtain ⟨c1, iS1, hKn1⟩ := u_known (C := R_G) (T := T_G) (N := 6) (n := 6) hts i_G (hts _ kw_90)
  obtain ⟨c2, iS2, hKn2⟩ := u_known (C := R_B) (T := T_B) (N := 11) (n := 11) hts i_B (hts _ kw_117)
  obtain ⟨c3, iS3, hKn3⟩ := u_known (C := R_S) (T := T_S) (N := 12) (n := 12) hts i_S (hts _ kw_81)
  obtain ⟨c4, iS4, hKn4⟩ := u_known (C := R_X) (T := T_X) (N := 5) (n := 5) hts i_X (hts _ kw_39)
  obtain ⟨c5, iS5, hKn5⟩ := u_known (C := R_Z) (T := T_Z) (N := 22) (n := 22) hts i_Z (hts _ kw_450)
  obtain ⟨dC, dI, hKc⟩ : ∃ (dC : Nat → ClassId) (dI : Nat → Nat → Nat), ∀ (k : Nat) (q : vw_C), vwCl[k]? = some q → u_Kn s q.1 q.2.1 q.2.2 (dC k) (dI k) := by
    refine ⟨fun k => if k = 0 then c0 else if k = 1 then c1 else if k = 2 then c2 else if k = 3 then c3 else if k = 4 then c4 else c5, fun k => if k = 0 then iS0 else if k = 1 then iS1 else if k = 2 then iS2 else if k = 3 then iS3 else if k = 4 then iS4 else iS5, ?_⟩
    intro k q hq
    match k, hq with
    | 0, hq => cases hq; exact hKn0
    | 1, hq => cases hq; exact hKn1
    | 2, hq => cases hq; exact hKn2
    | 3, hq => cases hq; exact hKn3
    | 4, hq => cases hq; exact hKn4
    | 5, hq => cases hq; exact hKn5
    | k + 6, hq => simp [vwCl] at hq
  obtain ⟨cI, kI, pI, fI, gI, dI2⟩ := Cond.arrayClass_spec (hts _ kw_76)
  obtain ⟨cJ, kJ, pJ, fJ, gJ, dJ2⟩ := Cond.arrayClass_spec (hts _ kw_168)
  have hao : (Cond.arrayOver (.array .int)).before args s = true := htbl _ (List.mem_of_getElem? (i := 59) (by decide +kernel))
  obtain ⟨pA, cA, kA, eA, _, gA, dA2, fA⟩ := Jvm.Stand.arrayOver_specB hao
  refine ⟨(dC, dI), (cI, cJ, cA), ⟨hKc, fun k q hq => ?_⟩, ⟨fun w hw => ?_, va_AOA.of hao⟩, hts⟩
  · match k, hq with
    | 0, hq => cases hq; exact ⟨fun n z => ⟨fun k h => (by cases h), kI, gI, pI, dI2⟩, fI⟩
    | 1, hq => cases hq; exact ⟨fun n z => ⟨fun k h => (by cases h), kJ, gJ, pJ, dJ2⟩, fJ⟩
    | 2, hq => cases hq; exact ⟨fun n z => ⟨fun k h => (by cases h), kA, gA, pA, dA2⟩, fA⟩
    | k + 3, hq => simp at hq
  · have hm : w ∈ lw_tbl := wz_L_tbl w hw
    have h1 := List.all_eq_true.mp wz_L_ok w hw
    cases w with
    | fieldLinkNest a i b n d k => exact va_Nw.of rfl (htbl _ hm)
    | methodLinkNest a i x k => exact va_Nw.of rfl (htbl _ hm)
    | _ => simp [wz_isN] at h1
