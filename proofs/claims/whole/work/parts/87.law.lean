theorem wz_enterX {l : Launch} {y : MethodName} {rm : Room} {D : va_G} {q : wz_Q} {av : List Value} {mc ms sz : Nat} {cc : ByteArray} {maxL : Nat} {ret : Option FieldType} {X : State → Prop} {Qc : (Nat → Prop) → Array Value → State → Outcome → State → Prop}
    (hy : plainName y.cls = true) (hav : (lg_sl av).length ≤ maxL)
    (body : ∀ (p : Program) (e : Env) (s : State) (m : MethodId) (below : List Frame) (meth : Method) (c : Code) (A : Nat → Prop) (ls : Array Slot), wz_C p s m av.toArray meth c y cc maxL ret D q A → X s → (∀ x, x < s.heap.size → ¬ A x) → va_P D vwCl ([] : wz_G).flatten s.heap → va_D A ([] : wz_G).flatten → va_S A s.heap s.heap [] → lv_has ls maxL (lv_args 0 av) →
      W p l e rm s m av.toArray below meth c s.heap [] 0 0 (MQ below (Qc A) av.toArray s mc ms A) (F0 m 0 ls [])) :
    Met l y (.code y cc maxL ret :: bigW) rm (fun a U => wz_Pre D q av sz [] a U ∧ X U) (Qc (va_A ([] : wz_G).flatten sz)) mc ms (va_A ([] : wz_G).flatten sz) := by
  refine Met.ofW (cc := cc) (maxL := maxL) (ret := ret) hy rfl ?_
  intro p e s m args below meth c s₁ B hml hv
  obtain ⟨⟨rfl, hsz, hP, hK, hD0, hN⟩, hXs⟩ := hv
  have hts : ∀ x ∈ bigW, x.before av.toArray s = true := fun x h => atoms_spec (ws := .code y cc maxL ret :: bigW) B.pre x (List.mem_cons_of_mem _ h)
  have hown : s.vm.findClass y.cls = some m.cls := findClass_of_methodNamed B.named
  have hlocks := B.notSynchronized
  have hnm : meth.name = y.name := (name_of_methodNamed B.named B.method).1
  subst hsz
  have hD := hD0.self (sz := s.heap.size)
  have hA : ∀ k : Nat, s.heap.size ≤ k → va_A ([] : wz_G).flatten s.heap.size k := fun k h => Or.inr h
  have hAn : ∀ x, x < s.heap.size → ¬ va_A ([] : wz_G).flatten s.heap.size x := fun x hx q => by
    rcases q with ⟨k, e, h⟩ | h
    · simp at h
    · omega
  rw [lg_entry_eq]
  exact body p e s m below meth c _ _ ⟨B.exec, B.bytes, B.returns, hml, hlocks, hown, hts, hN, hK, hA, hnm⟩ hXs hAn hP hD va_S.rf (lv_entry av hav)
theorem wz_preX {s : State} {H : Heap} {locs : List Loc} {D : va_G} {q : wz_Q} {A : Nat → Prop} {gr : wz_G} {As : List Value} {bs L : Nat} {xs : Nat → Int32} (hN : wz_N wz_L s) (hK : va_K D vwCl (wz_ty q) s) (hQ : wz_Sp D A [] gr H) (hL : wz_L.all wz_isN = true) (hX : va_X bs L xs s s.heap) (hbl : bs < s.heap.size) (hbA : ¬ A bs) (hS : va_S A s.heap H locs) : PreS s H (fun a U => wz_Pre D q As H.size [] a U ∧ va_X bs L xs U U.heap ∧ bs < U.heap.size) As :=
  ⟨fun a U g mk h => ⟨wz_blind hL a U g mk h.1, va_X.moved (u := U) (U := U.calling g mk a) (Vm.Alike.refl U.vm) h.2.1, h.2.2⟩, fun U hU hW => ⟨(wz_preS hN hK hQ hL).2 U hU hW, by rw [hU]; exact (hX.moved hW.alike).kept (hS.2.1 bs hbl hbA), by rw [hU]; exact Nat.lt_of_lt_of_le hbl hS.1⟩⟩
theorem d_L_cell_0 : decode b_L_cell 0 = .ok (.iload_n 1, 1) := by decide +kernel
theorem d_L_cell_1 : decode b_L_cell 1 = .ok (.aload_n 0, 1) := by decide +kernel
theorem d_L_cell_2 : decode b_L_cell 2 = .ok (.arraylength, 1) := by decide +kernel
theorem d_L_cell_3 : decode b_L_cell 3 = .ok (.if_icmp .ge 9, 3) := by decide +kernel
theorem d_L_cell_6 : decode b_L_cell 6 = .ok (.aload_n 0, 1) := by decide +kernel
theorem d_L_cell_7 : decode b_L_cell 7 = .ok (.iload_n 1, 1) := by decide +kernel
theorem d_L_cell_8 : decode b_L_cell 8 = .ok (.iaload, 1) := by decide +kernel
theorem d_L_cell_9 : decode b_L_cell 9 = .ok (.goto 4, 3) := by decide +kernel
theorem d_L_cell_12 : decode b_L_cell 12 = .ok (.iconst 0, 1) := by decide +kernel
theorem d_L_cell_13 : decode b_L_cell 13 = .ok (.ireturn, 1) := by decide +kernel
set_option maxHeartbeats 4000000 in
set_option maxRecDepth 100000 in
/-- an int of the script, or 0 -/
theorem c_L_cell (l : Launch) (D : va_G) (q : wz_Q) (bs L k : Nat) (xs : Nat → Int32) (hL : L ≤ 2049) (hk : k < 2 ^ 31) : ∀ sz, Met l y_L_cell ws_L_cell ({ frames := 0, cells := 0, slots := 0, locals := 0 } : Room) (fun a U => wz_Pre D q ([.ref bs, .int (nI k)] : List Value) sz [] a U ∧ va_X bs L xs U U.heap ∧ bs < U.heap.size) (va_Qi (fun v (g : wz_G) => g = [] ∧ v = if k < L then xs k else 0) (wz_At D q (va_A ([] : wz_G).flatten sz)) (va_A ([] : wz_G).flatten sz)) 0 0 (va_A ([] : wz_G).flatten sz) := by
  intro sz9
  refine wz_enterX (cc := b_L_cell) (maxL := 2) (ret := (some .int)) (X := fun U => va_X bs L xs U U.heap ∧ bs < U.heap.size) (Qc := fun A => va_Qi (fun v (g : wz_G) => g = [] ∧ v = if k < L then xs k else 0) (wz_At D q A) A) (by decide) (Nat.le_of_ble_eq_true rfl) ?_
  intro p e s m below meth c A ls C hXX hAn hP hD hS hl
  obtain ⟨hx, hb, hr, hml, hlocks, hown, hts, hN, hK, hA, hnm⟩ := C
  obtain ⟨hX, hbl⟩ := hXX
  have hbA := hAn bs hbl
  have hown : s.vm.findClass "TwoEndSearchLaw" = some m.cls := hown
  have hl : lv_has ls 2 [(0, .ref bs), (1, .int (nI k))] := hl
  refine lv_iload_n hx hb d_L_cell_0 rfl (lv_at hl 1 rfl) ?_
  refine lv_aload_n hx hb d_L_cell_1 rfl (lv_at hl 0 rfl) ?_
  refine va_slen hx hb hX hbl hbA hS d_L_cell_2 ?_
  refine wz_ge (tgt := 12) hx hb d_L_cell_3 (by decide) (by omega) (by omega) (fun hc => ?_) (fun hc => ?_)
  · skip
    refine lv_iconst (v := nI 0) hx hb d_L_cell_12 (by decide) ?_
    exact wz_iret hx hb hr hlocks hK hP hD hS d_L_cell_13 ⟨rfl, (if_neg (by omega)).symm⟩
  · skip
    refine lv_aload_n hx hb d_L_cell_6 rfl (lv_at hl 0 rfl) ?_
    refine lv_iload_n hx hb d_L_cell_7 rfl (lv_at hl 1 rfl) ?_
    refine va_sld hx hb hX hbl hbA hS (vp_in_nI (n := k) (N := L) (by omega) (by omega)) d_L_cell_8 ?_
    refine wz_topi (y := xs k) (congrArg xs (nI_clamp (by omega))) ?_
    refine lv_goto (tgt := 13) hx hb d_L_cell_9 (by decide) ?_
    exact wz_iret hx hb hr hlocks hK hP hD hS d_L_cell_13 ⟨rfl, (if_pos hc).symm⟩
