/-! ROWS: arrays of arrays, over groups -/
section WZM
variable {p : Program} {l : Launch} {e : Env} {R : Room} {s : State} {m : MethodId} {args : Array Value} {below : List Frame} {meth : Method} {c : Code} {H : Heap} {locs : List Loc} {cells slots : Nat} {Q : State → Prop}
variable {cc : ByteArray} {pc : Nat} {ls : Array Slot} {rest : List Value} {D : va_G} {q : wz_Q} {A : Nat → Prop} {gs : wz_G} {H0 : Heap}
theorem wz_mna_flat {r0 n : Nat} {r : Nat → Nat} {f : Nat → va_E} {z : vp_A} : (gs.flatten ++ [(r0, Sum.inl (q.2.2, wz_out n r))]) ++ va_pl ([] ++ (List.range n).map r) (vr_up f ((List.range n).map r) (.inl (q.1, z))) = (gs ++ ([[(r0, .inl (q.2.2, wz_out n r))], wz_rows n r (fun _ => .inl (q.1, z))] : wz_G)).flatten := by
  rw [List.flatten_append, List.append_assoc, List.nil_append]
  congr 1
  show [(r0, Sum.inl (q.2.2, wz_out n r))] ++ _ = [(r0, Sum.inl (q.2.2, wz_out n r))] ++ (wz_rows n r (fun _ => .inl (q.1, z)) ++ [])
  congr 1
  rw [List.append_nil]
  unfold va_pl wz_rows
  rw [List.map_map]
  refine List.map_congr_left (fun i hi => ?_)
  show (r i, vr_up f ((List.range n).map r) (.inl (q.1, z)) (r i)) = _
  rw [vr_up_in (List.mem_map.mpr ⟨i, hi, rfl⟩)]
theorem wz_mna {own : String} {index n k : Nat} (hx : p.tables.exec = Jvm.exec) (hb : c.code = cc) (hown : s.vm.findClass own = some m.cls) (hclink : (Cond.classLink own index "[[I").before args s = true) (hN : wz_N wz_L s) (harr : (Cond.arrayClass .int).before args s = true) (hK : va_K D vwCl (wz_ty q) s) (hP : va_P D vwCl gs.flatten H) (hD : va_D A gs.flatten) (hS : va_S A H0 H locs) (hA : ∀ k, H0.size ≤ k → A k) (hn : n ≤ 12) (hk : k ≤ 65536) (hcells : cells + (1 + n) ≤ R.cells) (hslots : slots + (n + n * k) ≤ R.slots) (hdg : decode cc pc = .ok (.multianewarray index 2, 4))
    (kk : ∀ (r0 : Nat) (r : Nat → Nat) (H1 : Heap), va_P D vwCl (gs ++ ([[(r0, .inl (q.2.2, wz_out n r))], wz_rows n r (fun _ => .inl (q.1, k, .inl (fun _ => 0)))] : wz_G)).flatten H1 → va_D A (gs ++ ([[(r0, .inl (q.2.2, wz_out n r))], wz_rows n r (fun _ => .inl (q.1, k, .inl (fun _ => 0)))] : wz_G)).flatten → va_S A H0 H1 locs →
      W p l e R s m args below meth c H1 locs (cells + 1 + n) (slots + n + n * k) Q (F0 m (pc + 4) ls (.ref r0 :: rest))) : W p l e R s m args below meth c H locs cells slots Q (F0 m pc ls (.int (nI k) :: .int (nI n) :: rest)) := by
  have hcy : s.vm.findClass (FieldType.array FieldType.int).toString = some q.1 := (hK.2 0 (q.1, .int) rfl).2
  have hP0 : va_P D vwCl (gs.flatten ++ va_pl [] (fun _ => .inl (q.1, 0, .inl (fun _ => 0)))) H := by rw [show va_pl [] (fun _ => .inl (q.1, 0, .inl (fun _ => 0))) = [] from rfl, List.append_nil]; exact hP
  have hD0 : va_D A (gs.flatten ++ va_pl [] (fun _ => .inl (q.1, 0, .inl (fun _ => 0)))) := by rw [show va_pl [] (fun _ => .inl (q.1, 0, .inl (fun _ => 0))) = [] from rfl, List.append_nil]; exact hD
  refine va_mna (ty := .int) (cy := q.1) (z := (k, .inl (fun _ => 0))) hx hb hown hclink hN.2 harr hcy hK hP0 hD0 hS hA (nI_pos (by omega)) (nI_pos (by omega)) (nI_clamp (by omega)) (nI_clamp (by omega)) (by omega) (by show k * 4 ≤ 536870912; omega) (by omega) rfl rfl hcells hslots (fun c9 => ?_) hdg (fun r0 r cA H1 _ _ hK1 hP1 hD1 hS1 => ?_)
  · exact arrV_new _ _ _
  · have h1 : s.vm.findClass ("[" ++ (FieldType.array FieldType.int).toString) = some cA := (hK1.2 3 (cA, .array .int) rfl).2
    have h2 : s.vm.findClass ("[" ++ (FieldType.array FieldType.int).toString) = some q.2.2 := (hK.2 2 (q.2.2, .array .int) rfl).2
    obtain rfl := Option.some.inj (h1.symm.trans h2)
    rw [show (Sum.inl (q.2.2, n, Sum.inr (Sum.inr (Sum.inr (Sum.inr fun i => if i < n then some (r i) else none)))) : va_E) = .inl (q.2.2, wz_out n r) from rfl] at hP1 hD1
    rw [wz_mna_flat] at hP1 hD1
    exact kk r0 r H1 hP1 hD1 hS1
end WZM
theorem gq_sl : ∀ b, b < 31 → nI 1 <<< (nI b &&& 31) = nI (2 ^ b) := by decide
theorem pz_fact_s (n : Nat) : pz_fact (n + 1) = (n + 1) * pz_fact n := rfl
