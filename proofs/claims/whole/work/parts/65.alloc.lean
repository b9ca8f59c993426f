/-! ROWS: arrays and objects that are made -/
section WZN
variable {p : Program} {l : Launch} {e : Env} {R : Room} {s : State} {m : MethodId} {args : Array Value} {below : List Frame} {meth : Method} {c : Code} {H : Heap} {locs : List Loc} {cells slots : Nat} {Q : State → Prop}
variable {cc : ByteArray} {pc : Nat} {ls : Array Slot} {rest : List Value} {D : va_G} {q : wz_Q} {A : Nat → Prop} {gs : wz_G} {H0 : Heap}
theorem wz_newi {n : Nat} (hx : p.tables.exec = Jvm.exec) (hb : c.code = cc) (harr : (Cond.arrayClass .int).before args s = true) (hK : va_K D vwCl (wz_ty q) s) (hP : va_P D vwCl gs.flatten H) (hD : va_D A gs.flatten) (hS : va_S A H0 H locs) (hA : ∀ k, H0.size ≤ k → A k) (hn : n ≤ 65536) (hcells : cells + 1 ≤ R.cells) (hslots : slots + n ≤ R.slots) (hdg : decode cc pc = .ok (.newarray .int, 2))
    (kk : ∀ (r : Nat) (H1 : Heap), va_P D vwCl (gs ++ ([[(r, .inl (q.1, n, .inl (fun _ => 0)))]] : wz_G)).flatten H1 → va_D A (gs ++ ([[(r, .inl (q.1, n, .inl (fun _ => 0)))]] : wz_G)).flatten → va_S A H0 H1 locs → W p l e R s m args below meth c H1 locs (cells + 1) (slots + n) Q (F0 m (pc + 2) ls (.ref r :: rest))) : W p l e R s m args below meth c H locs cells slots Q (F0 m pc ls (.int (nI n) :: rest)) := by
  refine va_newa (atype := .int) (ty := .int) (a0 := (n, .inl (fun _ => 0))) hx hb harr rfl hK hP hD hS hA (fun cA => rfl) (nI_pos (by omega)) (nI_clamp (by omega)) (by show n * 4 ≤ 536870912; omega) hcells hslots hdg (fun r cA H1 hK1 hP1 hD1 hS1 => ?_)
  have h1 : s.vm.findClass ("[" ++ (FieldType.int).toString) = some cA := (hK1.2 3 (cA, .int) rfl).2
  have h2 : s.vm.findClass ("[" ++ (FieldType.int).toString) = some q.1 := (hK.2 0 (q.1, .int) rfl).2
  obtain rfl := Option.some.inj (h1.symm.trans h2)
  exact kk r H1 (by rw [List.flatten_append]; exact hP1) (by rw [List.flatten_append]; exact hD1) hS1
theorem wz_newl {n : Nat} (hx : p.tables.exec = Jvm.exec) (hb : c.code = cc) (harr : (Cond.arrayClass .long).before args s = true) (hK : va_K D vwCl (wz_ty q) s) (hP : va_P D vwCl gs.flatten H) (hD : va_D A gs.flatten) (hS : va_S A H0 H locs) (hA : ∀ k, H0.size ≤ k → A k) (hn : n ≤ 65536) (hcells : cells + 1 ≤ R.cells) (hslots : slots + n ≤ R.slots) (hdg : decode cc pc = .ok (.newarray .long, 2))
    (kk : ∀ (r : Nat) (H1 : Heap), va_P D vwCl (gs ++ ([[(r, .inl (q.2.1, n, .inr (.inl (fun _ => 0))))]] : wz_G)).flatten H1 → va_D A (gs ++ ([[(r, .inl (q.2.1, n, .inr (.inl (fun _ => 0))))]] : wz_G)).flatten → va_S A H0 H1 locs → W p l e R s m args below meth c H1 locs (cells + 1) (slots + n) Q (F0 m (pc + 2) ls (.ref r :: rest))) : W p l e R s m args below meth c H locs cells slots Q (F0 m pc ls (.int (nI n) :: rest)) := by
  refine va_newa (atype := .long) (ty := .long) (a0 := (n, .inr (.inl (fun _ => 0)))) hx hb harr rfl hK hP hD hS hA (fun cA => rfl) (nI_pos (by omega)) (nI_clamp (by omega)) (by show n * 8 ≤ 536870912; omega) hcells hslots hdg (fun r cA H1 hK1 hP1 hD1 hS1 => ?_)
  have h1 : s.vm.findClass ("[" ++ (FieldType.long).toString) = some cA := (hK1.2 3 (cA, .long) rfl).2
  have h2 : s.vm.findClass ("[" ++ (FieldType.long).toString) = some q.2.1 := (hK.2 1 (q.2.1, .long) rfl).2
  obtain rfl := Option.some.inj (h1.symm.trans h2)
  exact kk r H1 (by rw [List.flatten_append]; exact hP1) (by rw [List.flatten_append]; exact hD1) hS1
theorem wz_new {own C : String} {T : u_T} {N ci index : Nat} {fs : List Value} (hx : p.tables.exec = Jvm.exec) (hb : c.code = cc) (hts : ∀ w ∈ bigW, w.before args s = true) (hin : ∀ w ∈ u_ws C T N, w ∈ bigW) (ty : Nat → FieldType) (hty : ∀ k, k < N → parseFieldDescriptor (T k).2.2.1 = some (ty k)) (hown : s.vm.findClass own = some m.cls) (hcl : (Cond.classLink own index C).before args s = true) (hinst : (Cond.instantiable C N).before args s = true) (hini : (Cond.initialized C).before args s = true)
    (hK : va_K D vwCl (wz_ty q) s) (hP : va_P D vwCl gs.flatten H) (hD : va_D A gs.flatten) (hS : va_S A H0 H locs) (hA : ∀ k, H0.size ≤ k → A k) (hc : vwCl[ci]? = some (C, T, N)) (hfs : ∀ j, j < N → defaultValue (ty j) = vp_V fs j) (hcells : cells + 1 ≤ R.cells) (hslots : slots + N ≤ R.slots) (hdg : decode cc pc = .ok (.new index, 3))
    (kk : ∀ (r : Nat) (H1 : Heap), va_P D vwCl (gs ++ ([[(r, .inr (ci, fs))]] : wz_G)).flatten H1 → va_D A (gs ++ ([[(r, .inr (ci, fs))]] : wz_G)).flatten → va_S A H0 H1 locs → W p l e R s m args below meth c H1 locs (cells + 1) (slots + N) Q (F0 m (pc + 3) ls (.ref r :: rest))) : W p l e R s m args below meth c H locs cells slots Q (F0 m pc ls rest) :=
  va_new hx hb hts hin ty hty hown hcl hinst hini hK hP hD hS hA hc hfs hcells hslots hdg (fun r H1 hP1 hD1 hS1 => kk r H1 (by rw [List.flatten_append]; exact hP1) (by rw [List.flatten_append]; exact hD1) hS1)
end WZN
/-- the number of places -/
def pz_n (x : Int32) : Nat := if nI 1 ≤ x then (if x ≤ nI 8 then x.toNatClampNeg else 8) else 1
theorem pz_n_1 {x : Int32} (h : ¬ nI 1 ≤ x) : pz_n x = 1 := if_neg h
theorem pz_n_8 {x : Int32} (h : nI 1 ≤ x) (h2 : ¬ x ≤ nI 8) : pz_n x = 8 := by unfold pz_n; rw [if_pos h, if_neg h2]
theorem pz_n_x {x : Int32} (h : nI 1 ≤ x) (h2 : x ≤ nI 8) : x = nI (pz_n x) ∧ 1 ≤ pz_n x ∧ pz_n x ≤ 8 := by
  obtain ⟨j, hj, rfl⟩ := nI_of2 (n := 8) (M := nI 8) (by decide) (fun q => by
    have h1 := Int32.lt_iff_toInt_lt.mp q
    have h3 := Int32.le_iff_toInt_le.mp h
    have h4 : (nI 1).toInt = 1 := by decide
    have h5 : (0 : Int32).toInt = 0 := by decide
    omega) h2
  have hj1 := (nI_leI (a := 1) (by omega) (by omega)).mp h
  have : pz_n (nI j) = j := by unfold pz_n; rw [if_pos h, if_pos h2]; exact nI_clamp (by omega)
  rw [this]
  exact ⟨rfl, hj1, hj⟩
theorem pz_n_in (x : Int32) : 1 ≤ pz_n x ∧ pz_n x ≤ 8 := by
  by_cases h : nI 1 ≤ x
  · by_cases h2 : x ≤ nI 8
    · exact (pz_n_x h h2).2
    · rw [pz_n_8 h h2]; omega
  · rw [pz_n_1 h]; omega
