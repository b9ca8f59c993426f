/-! CONTRACTS over groups of cells, and the rows of a walk over them -/
abbrev wz_Q : Type := ClassId × ClassId × ClassId
abbrev wz_ty (q : wz_Q) : List (ClassId × FieldType) := [(q.1, .int), (q.2.1, .long), (q.2.2, .array .int)]
def wz_Pre (D : va_G) (q : wz_Q) (av : List Value) (sz : Nat) (gs : wz_G) : Array Value → State → Prop := va_Pc av (fun U => U.heap.size = sz ∧ va_P D vwCl gs.flatten U.heap ∧ va_K D vwCl (wz_ty q) U ∧ va_D (fun _ => True) gs.flatten ∧ wz_N wz_L U)
def wz_At (D : va_G) (q : wz_Q) (A : Nat → Prop) (gs : wz_G) (t : State) : Prop := va_P D vwCl gs.flatten t.heap ∧ va_K D vwCl (wz_ty q) t ∧ va_D A gs.flatten
def wz_Mi (l : Launch) (y : MethodName) (w : List Cond) (rm : Room) (D : va_G) (q : wz_Q) (av : List Value) (gs : wz_G) (post : Int32 → wz_G → Prop) (mc ms : Nat) : Prop :=
  ∀ sz, Met l y w rm (wz_Pre D q av sz gs) (va_Qi post (wz_At D q (va_A gs.flatten sz)) (va_A gs.flatten sz)) mc ms (va_A gs.flatten sz)
def wz_Ml (l : Launch) (y : MethodName) (w : List Cond) (rm : Room) (D : va_G) (q : wz_Q) (av : List Value) (gs : wz_G) (post : Int64 → wz_G → Prop) (mc ms : Nat) : Prop :=
  ∀ sz, Met l y w rm (wz_Pre D q av sz gs) (va_Ql post (wz_At D q (va_A gs.flatten sz)) (va_A gs.flatten sz)) mc ms (va_A gs.flatten sz)
def wz_Mv (l : Launch) (y : MethodName) (w : List Cond) (rm : Room) (D : va_G) (q : wz_Q) (av : List Value) (gs : wz_G) (post : wz_G → Prop) (mc ms : Nat) : Prop :=
  ∀ sz, Met l y w rm (wz_Pre D q av sz gs) (va_Qv post (wz_At D q (va_A gs.flatten sz)) (va_A gs.flatten sz)) mc ms (va_A gs.flatten sz)
def wz_Mr (l : Launch) (y : MethodName) (w : List Cond) (rm : Room) (D : va_G) (q : wz_Q) (av : List Value) (gs : wz_G) (post : Nat → wz_G → Prop) (mc ms : Nat) : Prop :=
  ∀ sz, Met l y w rm (wz_Pre D q av sz gs) (va_Qr (fun u : Nat × wz_G => post u.1 u.2) (fun u a t => a = u.1 ∧ wz_At D q (va_A gs.flatten sz) u.2 t) (va_A gs.flatten sz)) mc ms (va_A gs.flatten sz)
/-- what a walk has at hand -/
def wz_C (p : Program) (s : State) (m : MethodId) (args : Array Value) (meth : Method) (c : Code) (y : MethodName) (cc : ByteArray) (maxL : Nat) (ret : Option FieldType) (D : va_G) (q : wz_Q) (A : Nat → Prop) : Prop :=
  p.tables.exec = Jvm.exec ∧ c.code = cc ∧ meth.sig.returnType = ret ∧ c.maxLocals = maxL ∧ meth.locks = false ∧ s.vm.findClass y.cls = some m.cls ∧ (∀ x ∈ bigW, x.before args s = true) ∧ wz_N wz_L s ∧ va_K D vwCl (wz_ty q) s ∧ (∀ k, s.heap.size ≤ k → A k) ∧ meth.name = y.name
theorem wz_enter {l : Launch} {y : MethodName} {rm : Room} {D : va_G} {q : wz_Q} {av : List Value} {gs : wz_G} {mc ms sz : Nat} {cc : ByteArray} {maxL : Nat} {ret : Option FieldType} {Qc : (Nat → Prop) → Array Value → State → Outcome → State → Prop}
    (hy : plainName y.cls = true) (hav : (lg_sl av).length ≤ maxL)
    (body : ∀ (p : Program) (e : Env) (s : State) (m : MethodId) (below : List Frame) (meth : Method) (c : Code) (A : Nat → Prop) (ls : Array Slot), wz_C p s m av.toArray meth c y cc maxL ret D q A → va_P D vwCl gs.flatten s.heap → va_D A gs.flatten → va_S A s.heap s.heap [] → lv_has ls maxL (lv_args 0 av) →
      W p l e rm s m av.toArray below meth c s.heap [] 0 0 (MQ below (Qc A) av.toArray s mc ms A) (F0 m 0 ls [])) :
    Met l y (.code y cc maxL ret :: bigW) rm (wz_Pre D q av sz gs) (Qc (va_A gs.flatten sz)) mc ms (va_A gs.flatten sz) := by
  refine Met.ofW (cc := cc) (maxL := maxL) (ret := ret) hy rfl ?_
  intro p e s m args below meth c s₁ B hml hv
  obtain ⟨rfl, hsz, hP, hK, hD0, hN⟩ := hv
  have hts : ∀ x ∈ bigW, x.before av.toArray s = true := fun x h => atoms_spec (ws := .code y cc maxL ret :: bigW) B.pre x (List.mem_cons_of_mem _ h)
  have hown : s.vm.findClass y.cls = some m.cls := findClass_of_methodNamed B.named
  have hlocks := B.notSynchronized
  have hnm : meth.name = y.name := (name_of_methodNamed B.named B.method).1
  subst hsz
  have hD := hD0.self (sz := s.heap.size)
  have hA : ∀ k : Nat, s.heap.size ≤ k → va_A gs.flatten s.heap.size k := fun k h => Or.inr h
  rw [lg_entry_eq]
  exact body p e s m below meth c _ _ ⟨B.exec, B.bytes, B.returns, hml, hlocks, hown, hts, hN, hK, hA, hnm⟩ hP hD va_S.rf (lv_entry av hav)
section WZ
variable {p : Program} {l : Launch} {e : Env} {R : Room} {s : State} {m : MethodId} {args : Array Value} {below : List Frame} {meth : Method} {c : Code} {H : Heap} {locs : List Loc} {cells slots : Nat} {Q : State → Prop}
variable {cc : ByteArray} {pc : Nat} {ls : Array Slot} {rest : List Value} {D : va_G} {q : wz_Q} {A : Nat → Prop} {a : Nat} {gs gs' gc gr : wz_G} {H0 : Heap}
theorem wz_iret {post : Int32 → wz_G → Prop} {v : Int32} (hx : p.tables.exec = Jvm.exec) (hb : c.code = cc) (hr : meth.sig.returnType = some .int) (hlocks : meth.locks = false) (hK : va_K D vwCl (wz_ty q) s) (hP : va_P D vwCl gs.flatten H) (hD : va_D A gs.flatten) (hS : va_S A s.heap H locs) (hdg : decode cc pc = .ok (.ireturn, 1)) (hp : post v gs) : W p l e R s m args below meth c H locs cells slots (MQ below (va_Qi post (wz_At D q A) A) args s cells slots A) (F0 m pc ls [.int v]) :=
  W.iret (v := v) hx hb hr (fun _ ht hW => ⟨⟨v, gs, rfl, hp, by rw [ht]; exact hP, va_K.moved hW.alike hK, hD⟩, hS.F ht⟩) hS.2.2 hdg hlocks
theorem wz_zret {post : Int32 → wz_G → Prop} {v : Int32} (hx : p.tables.exec = Jvm.exec) (hb : c.code = cc) (hr : meth.sig.returnType = some .boolean) (hlocks : meth.locks = false) (hK : va_K D vwCl (wz_ty q) s) (hP : va_P D vwCl gs.flatten H) (hD : va_D A gs.flatten) (hS : va_S A s.heap H locs) (hdg : decode cc pc = .ok (.ireturn, 1)) (hz : v = 0 ∨ v = 1) (hp : post v gs) : W p l e R s m args below meth c H locs cells slots (MQ below (va_Qi post (wz_At D q A) A) args s cells slots A) (F0 m pc ls [.int v]) :=
  W.zret (v := v) hx hb hr (by rcases hz with rfl | rfl <;> rfl) (fun _ ht hW => ⟨⟨v, gs, rfl, hp, by rw [ht]; exact hP, va_K.moved hW.alike hK, hD⟩, hS.F ht⟩) hS.2.2 hdg hlocks
theorem wz_lret {post : Int64 → wz_G → Prop} {v : Int64} (hx : p.tables.exec = Jvm.exec) (hb : c.code = cc) (hr : meth.sig.returnType = some .long) (hlocks : meth.locks = false) (hK : va_K D vwCl (wz_ty q) s) (hP : va_P D vwCl gs.flatten H) (hD : va_D A gs.flatten) (hS : va_S A s.heap H locs) (hdg : decode cc pc = .ok (.lreturn, 1)) (hp : post v gs) : W p l e R s m args below meth c H locs cells slots (MQ below (va_Ql post (wz_At D q A) A) args s cells slots A) (F0 m pc ls [.long v]) :=
  W.lret (v := v) hx hb hr (fun _ ht hW => ⟨⟨v, gs, rfl, hp, by rw [ht]; exact hP, va_K.moved hW.alike hK, hD⟩, hS.F ht⟩) hS.2.2 hdg hlocks
theorem wz_vret {post : wz_G → Prop} (hx : p.tables.exec = Jvm.exec) (hb : c.code = cc) (hr : meth.sig.returnType = none) (hlocks : meth.locks = false) (hK : va_K D vwCl (wz_ty q) s) (hP : va_P D vwCl gs.flatten H) (hD : va_D A gs.flatten) (hS : va_S A s.heap H locs) (hdg : decode cc pc = .ok (.return_, 1)) (hp : post gs) : W p l e R s m args below meth c H locs cells slots (MQ below (va_Qv post (wz_At D q A) A) args s cells slots A) (F0 m pc ls []) :=
  W.vret hx hb hr (fun _ ht hW => ⟨⟨gs, rfl, hp, by rw [ht]; exact hP, va_K.moved hW.alike hK, hD⟩, hS.F ht⟩) hS.2.2 hdg hlocks
theorem wz_aret {post : Nat → wz_G → Prop} {v : Nat} {rt : FieldType} (hx : p.tables.exec = Jvm.exec) (hb : c.code = cc) (hr : meth.sig.returnType = some rt) (hrt : ∃ n, rt = .object n) (hlocks : meth.locks = false) (hK : va_K D vwCl (wz_ty q) s) (hP : va_P D vwCl gs.flatten H) (hD : va_D A gs.flatten) (hS : va_S A s.heap H locs) (hdg : decode cc pc = .ok (.areturn, 1)) (hp : post v gs) : W p l e R s m args below meth c H locs cells slots (MQ below (va_Qr (fun u : Nat × wz_G => post u.1 u.2) (fun u a t => a = u.1 ∧ wz_At D q A u.2 t) A) args s cells slots A) (F0 m pc ls [.ref v]) :=
  W.aret hx hb hr (Or.inl hrt) (Or.inr ⟨v, rfl⟩) (fun _ ht hW => ⟨⟨(v, gs), v, rfl, hp, rfl, by rw [ht]; exact hP, va_K.moved hW.alike hK, hD⟩, hS.F ht⟩) hS.2.2 hdg hlocks
theorem wz_topi {x y : Int32} (h : x = y) (k : W p l e R s m args below meth c H locs cells slots Q (F0 m pc ls (.int y :: rest))) : W p l e R s m args below meth c H locs cells slots Q (F0 m pc ls (.int x :: rest)) := h ▸ k
theorem wz_topl {x y : Int64} (h : x = y) (k : W p l e R s m args below meth c H locs cells slots Q (F0 m pc ls (.long y :: rest))) : W p l e R s m args below meth c H locs cells slots Q (F0 m pc ls (.long x :: rest)) := h ▸ k
theorem wz_get (hx : p.tables.exec = Jvm.exec) (hb : c.code = cc) {own ref C : String} {T : u_T} {N ci index : Nat} (hts : ∀ w ∈ bigW, w.before args s = true) (hin : ∀ w ∈ u_ws C T N, w ∈ bigW) (hown : s.vm.findClass own = some m.cls) (hK : va_K D vwCl (wz_ty q) s) (hP : va_P D vwCl gs.flatten H) (gi k : Nat) {g : va_W} {fs : List Value} (hg : gs[gi]? = some g) (he : g[k]? = some (a, .inr (ci, fs))) (hc : vwCl[ci]? = some (C, T, N)) (fk : Nat) (hk : fk < N) (hlink : (Cond.fieldLink own index ref (T fk).2.1 (T fk).2.2.1).before args s = true) (hsame : (T fk).1 = ref) {v : Value} (hv : fs[fk]? = some v) (hdg : decode cc pc = .ok (.getfield index, 3))
    (kk : W p l e R s m args below meth c H locs cells slots Q (F0 m (pc + 3) ls (v :: rest))) : W p l e R s m args below meth c H locs cells slots Q (F0 m pc ls (.ref a :: rest)) :=
  va_get hx hb hts hin hown hK hP _ (wz_get_flat hg he) hc fk hk hlink (fun _ h => by rw [← hsame]; exact h) hv hdg kk
theorem wz_getN (hx : p.tables.exec = Jvm.exec) (hb : c.code = cc) {own ref C host : String} {T : u_T} {N ci index : Nat} (hts : ∀ w ∈ bigW, w.before args s = true) (hin : ∀ w ∈ u_ws C T N, w ∈ bigW) (hown : s.vm.findClass own = some m.cls) (hK : va_K D vwCl (wz_ty q) s) (hP : va_P D vwCl gs.flatten H) (gi k : Nat) {g : va_W} {fs : List Value} (hg : gs[gi]? = some g) (he : g[k]? = some (a, .inr (ci, fs))) (hc : vwCl[ci]? = some (C, T, N)) (fk : Nat) (hk : fk < N) (hlink : va_Nw (.fieldLinkNest own index ref (T fk).2.1 (T fk).2.2.1 host) s) (hsame : (T fk).1 = ref) {v : Value} (hv : fs[fk]? = some v) (hdg : decode cc pc = .ok (.getfield index, 3))
    (kk : W p l e R s m args below meth c H locs cells slots Q (F0 m (pc + 3) ls (v :: rest))) : W p l e R s m args below meth c H locs cells slots Q (F0 m pc ls (.ref a :: rest)) :=
  va_getN hx hb hts hin hown hK hP _ (wz_get_flat hg he) hc fk hk (va_Nw.use rfl hlink) (fun _ h => by rw [← hsame]; exact h) hv hdg kk
theorem wz_put (hx : p.tables.exec = Jvm.exec) (hb : c.code = cc) {own ref C : String} {T : u_T} {N ci index : Nat} (hts : ∀ w ∈ bigW, w.before args s = true) (hin : ∀ w ∈ u_ws C T N, w ∈ bigW) (ty0 : Nat → FieldType) (hty : ∀ k, k < N → parseFieldDescriptor (T k).2.2.1 = some (ty0 k)) (hnm : ∀ a, a < N → ∀ b, b < N → a ≠ b → (T a).2.1 ≠ (T b).2.1) (hown : s.vm.findClass own = some m.cls) (hK : va_K D vwCl (wz_ty q) s) (hP : va_P D vwCl gs.flatten H) (hD : va_D A gs.flatten) (hS : va_S A H0 H locs) (gi k : Nat) {g : va_W} {fs : List Value} (hg : gs[gi]? = some g) (he : g[k]? = some (a, .inr (ci, fs))) (hc : vwCl[ci]? = some (C, T, N)) (fk : Nat) (hk : fk < N) (hlink : (Cond.fieldLink own index ref (T fk).2.1 (T fk).2.2.1).before args s = true) (hsame : (T fk).1 = ref) (hfin : (T fk).2.2.2 = false) {ty : FieldType} {v : Value} (hd : parseFieldDescriptor (T fk).2.2.1 = some ty) (hn : narrow ty v = v) (hfit : fits ty v = true) (hl : fk < fs.length) (hdg : decode cc pc = .ok (.putfield index, 3)) (hset : gs.set gi (g.set k (a, .inr (ci, fs.set fk v))) = gs')
    (kk : ∀ (H1 : Heap) (locs1 : List Loc), va_P D vwCl gs'.flatten H1 → va_D A gs'.flatten → va_S A H0 H1 locs1 → W p l e R s m args below meth c H1 locs1 cells slots Q (F0 m (pc + 3) ls rest)) : W p l e R s m args below meth c H locs cells slots Q (F0 m pc ls (v :: .ref a :: rest)) :=
  va_put hx hb hts hin ty0 hty hnm hown hK hP hD hS _ (wz_get_flat hg he) hc fk hk hlink (fun _ h => by rw [← hsame]; exact h) hfin hd hn hfit hl hdg (fun H1 locs1 h1 h2 h3 => by
    rw [wz_set_flat _ hg (List.getElem?_eq_some_iff.mp he).1, hset] at h1 h2
    exact kk H1 locs1 h1 h2 h3)
theorem wz_putN (hx : p.tables.exec = Jvm.exec) (hb : c.code = cc) {own ref C host : String} {T : u_T} {N ci index : Nat} (hts : ∀ w ∈ bigW, w.before args s = true) (hin : ∀ w ∈ u_ws C T N, w ∈ bigW) (ty0 : Nat → FieldType) (hty : ∀ k, k < N → parseFieldDescriptor (T k).2.2.1 = some (ty0 k)) (hnm : ∀ a, a < N → ∀ b, b < N → a ≠ b → (T a).2.1 ≠ (T b).2.1) (hown : s.vm.findClass own = some m.cls) (hK : va_K D vwCl (wz_ty q) s) (hP : va_P D vwCl gs.flatten H) (hD : va_D A gs.flatten) (hS : va_S A H0 H locs) (gi k : Nat) {g : va_W} {fs : List Value} (hg : gs[gi]? = some g) (he : g[k]? = some (a, .inr (ci, fs))) (hc : vwCl[ci]? = some (C, T, N)) (fk : Nat) (hk : fk < N) (hlink : va_Nw (.fieldLinkNest own index ref (T fk).2.1 (T fk).2.2.1 host) s) (hsame : (T fk).1 = ref) (hfin : (T fk).2.2.2 = false) {ty : FieldType} {v : Value} (hd : parseFieldDescriptor (T fk).2.2.1 = some ty) (hn : narrow ty v = v) (hfit : fits ty v = true) (hl : fk < fs.length) (hdg : decode cc pc = .ok (.putfield index, 3)) (hset : gs.set gi (g.set k (a, .inr (ci, fs.set fk v))) = gs')
    (kk : ∀ (H1 : Heap) (locs1 : List Loc), va_P D vwCl gs'.flatten H1 → va_D A gs'.flatten → va_S A H0 H1 locs1 → W p l e R s m args below meth c H1 locs1 cells slots Q (F0 m (pc + 3) ls rest)) : W p l e R s m args below meth c H locs cells slots Q (F0 m pc ls (v :: .ref a :: rest)) :=
  va_putN hx hb hts hin ty0 hty hnm hown hK hP hD hS _ (wz_get_flat hg he) hc fk hk (va_Nw.use rfl hlink) (fun _ h => by rw [← hsame]; exact h) hfin hd hn hfit hl hdg (fun H1 locs1 h1 h2 h3 => by
    rw [wz_set_flat _ hg (List.getElem?_eq_some_iff.mp he).1, hset] at h1 h2
    exact kk H1 locs1 h1 h2 h3)
theorem wz_putF (hx : p.tables.exec = Jvm.exec) (hb : c.code = cc) {own ref C : String} {T : u_T} {N ci index : Nat} (hts : ∀ w ∈ bigW, w.before args s = true) (hin : ∀ w ∈ u_ws C T N, w ∈ bigW) (ty0 : Nat → FieldType) (hty : ∀ k, k < N → parseFieldDescriptor (T k).2.2.1 = some (ty0 k)) (hnm : ∀ a, a < N → ∀ b, b < N → a ≠ b → (T a).2.1 ≠ (T b).2.1) (hown : s.vm.findClass own = some m.cls) (hK : va_K D vwCl (wz_ty q) s) (hP : va_P D vwCl gs.flatten H) (hD : va_D A gs.flatten) (hS : va_S A H0 H locs) (gi k : Nat) {g : va_W} {fs : List Value} (hg : gs[gi]? = some g) (he : g[k]? = some (a, .inr (ci, fs))) (hc : vwCl[ci]? = some (C, T, N)) (fk : Nat) (hk : fk < N) (hlink : (Cond.fieldLink own index ref (T fk).2.1 (T fk).2.2.1).before args s = true) (hsame : (T fk).1 = ref) (hfin : (T fk).2.2.2 = true) (hinit : meth.name = "<init>") (hdecl : (T fk).1 = own) {ty : FieldType} {v : Value} (hd : parseFieldDescriptor (T fk).2.2.1 = some ty) (hn : narrow ty v = v) (hfit : fits ty v = true) (hl : fk < fs.length) (hdg : decode cc pc = .ok (.putfield index, 3)) (hset : gs.set gi (g.set k (a, .inr (ci, fs.set fk v))) = gs')
    (kk : ∀ (H1 : Heap) (locs1 : List Loc), va_P D vwCl gs'.flatten H1 → va_D A gs'.flatten → va_S A H0 H1 locs1 → W p l e R s m args below meth c H1 locs1 cells slots Q (F0 m (pc + 3) ls rest)) : W p l e R s m args below meth c H locs cells slots Q (F0 m pc ls (v :: .ref a :: rest)) :=
  va_putF hx hb hts hin ty0 hty hnm hown hK hP hD hS _ (wz_get_flat hg he) hc fk hk hlink (fun _ h => by rw [← hsame]; exact h) hfin hinit hdecl hd hn hfit hl hdg (fun H1 locs1 h1 h2 h3 => by
    rw [wz_set_flat _ hg (List.getElem?_eq_some_iff.mp he).1, hset] at h1 h2
    exact kk H1 locs1 h1 h2 h3)
theorem wz_iald (hx : p.tables.exec = Jvm.exec) (hb : c.code = cc) (hK : va_K D vwCl (wz_ty q) s) (hP : va_P D vwCl gs.flatten H) (gi k : Nat) {g : va_W} {n j : Nat} {f : Nat → Int32} (hg : gs[gi]? = some g) (ha : g[k]? = some (a, .inl (q.1, n, .inl f))) (hj : j < n) (hn : n < 2 ^ 31) (hdg : decode cc pc = .ok (.iaload, 1))
    (kk : W p l e R s m args below meth c H locs cells slots Q (F0 m (pc + 1) ls (.int (f j) :: rest))) : W p l e R s m args below meth c H locs cells slots Q (F0 m pc ls (.int (nI j) :: .ref a :: rest)) :=
  va_iald hx hb hK hP _ 0 (wz_get_flat hg ha) rfl (vp_in_nI hj hn) hdg (by rw [nI_clamp (Nat.lt_trans hj hn)]; exact kk)
theorem wz_lald (hx : p.tables.exec = Jvm.exec) (hb : c.code = cc) (hK : va_K D vwCl (wz_ty q) s) (hP : va_P D vwCl gs.flatten H) (gi k : Nat) {g : va_W} {n j : Nat} {f : Nat → Int64} (hg : gs[gi]? = some g) (ha : g[k]? = some (a, .inl (q.2.1, n, .inr (.inl f)))) (hj : j < n) (hn : n < 2 ^ 31) (hdg : decode cc pc = .ok (.laload, 1))
    (kk : W p l e R s m args below meth c H locs cells slots Q (F0 m (pc + 1) ls (.long (f j) :: rest))) : W p l e R s m args below meth c H locs cells slots Q (F0 m pc ls (.int (nI j) :: .ref a :: rest)) :=
  va_lald hx hb hK hP _ 1 (wz_get_flat hg ha) rfl (vp_in_nI hj hn) hdg (by rw [nI_clamp (Nat.lt_trans hj hn)]; exact kk)
theorem wz_iast (hx : p.tables.exec = Jvm.exec) (hb : c.code = cc) (hK : va_K D vwCl (wz_ty q) s) (hP : va_P D vwCl gs.flatten H) (hD : va_D A gs.flatten) (hS : va_S A H0 H locs) (gi k : Nat) {g : va_W} {n j : Nat} {f : Nat → Int32} {x : Int32} (hg : gs[gi]? = some g) (ha : g[k]? = some (a, .inl (q.1, n, .inl f))) (hj : j < n) (hn : n < 2 ^ 31) (hdg : decode cc pc = .ok (.iastore, 1)) (hset : gs.set gi (g.set k (a, .inl (q.1, n, .inl (upd f j x)))) = gs')
    (kk : ∀ (H1 : Heap) (locs1 : List Loc), va_P D vwCl gs'.flatten H1 → va_D A gs'.flatten → va_S A H0 H1 locs1 → W p l e R s m args below meth c H1 locs1 cells slots Q (F0 m (pc + 1) ls rest)) : W p l e R s m args below meth c H locs cells slots Q (F0 m pc ls (.int x :: .int (nI j) :: .ref a :: rest)) :=
  va_iast hx hb hK hP hD hS _ 0 (wz_get_flat hg ha) rfl (vp_in_nI hj hn) hdg (fun H1 locs1 h1 h2 h3 => by
    rw [nI_clamp (Nat.lt_trans hj hn), wz_set_flat _ hg (List.getElem?_eq_some_iff.mp ha).1, hset] at h1 h2
    exact kk H1 locs1 h1 h2 h3)
theorem wz_last (hx : p.tables.exec = Jvm.exec) (hb : c.code = cc) (hK : va_K D vwCl (wz_ty q) s) (hP : va_P D vwCl gs.flatten H) (hD : va_D A gs.flatten) (hS : va_S A H0 H locs) (gi k : Nat) {g : va_W} {n j : Nat} {f : Nat → Int64} {x : Int64} (hg : gs[gi]? = some g) (ha : g[k]? = some (a, .inl (q.2.1, n, .inr (.inl f)))) (hj : j < n) (hn : n < 2 ^ 31) (hdg : decode cc pc = .ok (.lastore, 1)) (hset : gs.set gi (g.set k (a, .inl (q.2.1, n, .inr (.inl (vp_updL f j x))))) = gs')
    (kk : ∀ (H1 : Heap) (locs1 : List Loc), va_P D vwCl gs'.flatten H1 → va_D A gs'.flatten → va_S A H0 H1 locs1 → W p l e R s m args below meth c H1 locs1 cells slots Q (F0 m (pc + 1) ls rest)) : W p l e R s m args below meth c H locs cells slots Q (F0 m pc ls (.long x :: .int (nI j) :: .ref a :: rest)) :=
  va_last hx hb hK hP hD hS _ 1 (wz_get_flat hg ha) rfl (vp_in_nI hj hn) hdg (fun H1 locs1 h1 h2 h3 => by
    rw [nI_clamp (Nat.lt_trans hj hn), wz_set_flat _ hg (List.getElem?_eq_some_iff.mp ha).1, hset] at h1 h2
    exact kk H1 locs1 h1 h2 h3)
theorem wz_alen (hx : p.tables.exec = Jvm.exec) (hb : c.code = cc) (hK : va_K D vwCl (wz_ty q) s) (hP : va_P D vwCl gs.flatten H) (gi k : Nat) {g : va_W} {n : Nat} {f : Nat → Int32} (hg : gs[gi]? = some g) (ha : g[k]? = some (a, .inl (q.1, n, .inl f))) (hdg : decode cc pc = .ok (.arraylength, 1))
    (kk : W p l e R s m args below meth c H locs cells slots Q (F0 m (pc + 1) ls (.int (nI n) :: rest))) : W p l e R s m args below meth c H locs cells slots Q (F0 m pc ls (.ref a :: rest)) :=
  va_alen hx hb hK hP _ 0 (wz_get_flat hg ha) rfl (v := nI n) rfl hdg kk
/-- the outer array of a grid: n rows at the addresses r -/
def wz_out (n : Nat) (r : Nat → Nat) : vp_A := (n, .inr (.inr (.inr (.inr (fun i => if i < n then some (r i) else none)))))
theorem wz_aald (hx : p.tables.exec = Jvm.exec) (hb : c.code = cc) (hK : va_K D vwCl (wz_ty q) s) (hP : va_P D vwCl gs.flatten H) (gi k : Nat) {g : va_W} {n j : Nat} {r : Nat → Nat} (hg : gs[gi]? = some g) (ha : g[k]? = some (a, .inl (q.2.2, wz_out n r))) (hj : j < n) (hn : n < 2 ^ 31) (hdg : decode cc pc = .ok (.aaload, 1))
    (kk : W p l e R s m args below meth c H locs cells slots Q (F0 m (pc + 1) ls (.ref (r j) :: rest))) : W p l e R s m args below meth c H locs cells slots Q (F0 m pc ls (.int (nI j) :: .ref a :: rest)) := by
  have hin := vp_in_nI hj hn
  have hcl := nI_clamp (Nat.lt_trans hj hn)
  have hrd : va_rf ((fun i => if i < n then some (r i) else none) j) = .ref (r j) := by
    show va_rf (if j < n then some (r j) else none) = _
    rw [if_pos hj]
    rfl
  refine W.aald (v := .ref (r j)) (ty := .array .int) hx hb (hP _ _ (wz_get_flat hg ha)) ((hK.2 2 _ rfl).1 n (fun i => va_rf (if i < n then some (r i) else none))) rfl (fun q => by cases q) (by show ¬ (nI j < 0 ∨ (arrV _ _ _).slots.size ≤ _); rw [arrV_size]; exact hin) (by show (arrV q.2.2 n (fun i => va_rf (if i < n then some (r i) else none))).slots[(nI j).toNatClampNeg]? = _; rw [hcl, arrV_read _ _ hj]; exact congrArg some hrd) rfl rfl hdg kk
/-! branches on naturals -/
theorem wz_ge {x y : Nat} (hx : p.tables.exec = Jvm.exec) (hb : c.code = cc) {off : Int} {tgt : Nat} (hdg : decode cc pc = .ok (.if_icmp .ge off, 3)) (ht : (pc : Int) + off = (tgt : Int)) (bx : x < 2 ^ 31) (by_ : y < 2 ^ 31) (kt : y ≤ x → W p l e R s m args below meth c H locs cells slots Q (F0 m tgt ls rest)) (kf : x < y → W p l e R s m args below meth c H locs cells slots Q (F0 m (pc + 3) ls rest)) : W p l e R s m args below meth c H locs cells slots Q (F0 m pc ls (.int (nI y) :: .int (nI x) :: rest)) :=
  lv_icmp_ge hx hb hdg ht (fun h => kt ((nI_leI by_ bx).mp h)) (fun h => kf (Nat.lt_of_not_le (fun z => h ((nI_leI by_ bx).mpr z))))
theorem wz_lt {x y : Nat} (hx : p.tables.exec = Jvm.exec) (hb : c.code = cc) {off : Int} {tgt : Nat} (hdg : decode cc pc = .ok (.if_icmp .lt off, 3)) (ht : (pc : Int) + off = (tgt : Int)) (bx : x < 2 ^ 31) (by_ : y < 2 ^ 31) (kt : x < y → W p l e R s m args below meth c H locs cells slots Q (F0 m tgt ls rest)) (kf : y ≤ x → W p l e R s m args below meth c H locs cells slots Q (F0 m (pc + 3) ls rest)) : W p l e R s m args below meth c H locs cells slots Q (F0 m pc ls (.int (nI y) :: .int (nI x) :: rest)) :=
  lv_icmp_lt hx hb hdg ht (fun h => kt ((nI_ltI bx by_).mp h)) (fun h => kf (Nat.le_of_not_lt (fun z => h ((nI_ltI bx by_).mpr z))))
theorem wz_gt {x y : Nat} (hx : p.tables.exec = Jvm.exec) (hb : c.code = cc) {off : Int} {tgt : Nat} (hdg : decode cc pc = .ok (.if_icmp .gt off, 3)) (ht : (pc : Int) + off = (tgt : Int)) (bx : x < 2 ^ 31) (by_ : y < 2 ^ 31) (kt : y < x → W p l e R s m args below meth c H locs cells slots Q (F0 m tgt ls rest)) (kf : x ≤ y → W p l e R s m args below meth c H locs cells slots Q (F0 m (pc + 3) ls rest)) : W p l e R s m args below meth c H locs cells slots Q (F0 m pc ls (.int (nI y) :: .int (nI x) :: rest)) :=
  lv_icmp_gt hx hb hdg ht (fun h => kt ((nI_ltI by_ bx).mp h)) (fun h => kf (Nat.le_of_not_lt (fun z => h ((nI_ltI by_ bx).mpr z))))
theorem wz_le {x y : Nat} (hx : p.tables.exec = Jvm.exec) (hb : c.code = cc) {off : Int} {tgt : Nat} (hdg : decode cc pc = .ok (.if_icmp .le off, 3)) (ht : (pc : Int) + off = (tgt : Int)) (bx : x < 2 ^ 31) (by_ : y < 2 ^ 31) (kt : x ≤ y → W p l e R s m args below meth c H locs cells slots Q (F0 m tgt ls rest)) (kf : y < x → W p l e R s m args below meth c H locs cells slots Q (F0 m (pc + 3) ls rest)) : W p l e R s m args below meth c H locs cells slots Q (F0 m pc ls (.int (nI y) :: .int (nI x) :: rest)) :=
  lv_icmp_le hx hb hdg ht (fun h => kt ((nI_leI bx by_).mp h)) (fun h => kf (Nat.lt_of_not_le (fun z => h ((nI_leI bx by_).mpr z))))
theorem wz_eq {x y : Nat} (hx : p.tables.exec = Jvm.exec) (hb : c.code = cc) {off : Int} {tgt : Nat} (hdg : decode cc pc = .ok (.if_icmp .eq off, 3)) (ht : (pc : Int) + off = (tgt : Int)) (bx : x < 2 ^ 31) (by_ : y < 2 ^ 31) (kt : x = y → W p l e R s m args below meth c H locs cells slots Q (F0 m tgt ls rest)) (kf : x ≠ y → W p l e R s m args below meth c H locs cells slots Q (F0 m (pc + 3) ls rest)) : W p l e R s m args below meth c H locs cells slots Q (F0 m pc ls (.int (nI y) :: .int (nI x) :: rest)) :=
  lv_icmp_eq hx hb hdg ht (fun h => kt ((nI_eq bx by_).mp h)) (fun h => kf (fun z => h ((nI_eq bx by_).mpr z)))
theorem wz_ne {x y : Nat} (hx : p.tables.exec = Jvm.exec) (hb : c.code = cc) {off : Int} {tgt : Nat} (hdg : decode cc pc = .ok (.if_icmp .ne off, 3)) (ht : (pc : Int) + off = (tgt : Int)) (bx : x < 2 ^ 31) (by_ : y < 2 ^ 31) (kt : x ≠ y → W p l e R s m args below meth c H locs cells slots Q (F0 m tgt ls rest)) (kf : x = y → W p l e R s m args below meth c H locs cells slots Q (F0 m (pc + 3) ls rest)) : W p l e R s m args below meth c H locs cells slots Q (F0 m pc ls (.int (nI y) :: .int (nI x) :: rest)) :=
  lv_icmp_ne hx hb hdg ht (fun h => kt (fun z => h ((nI_eq bx by_).mpr z))) (fun h => kf ((nI_eq bx by_).mp h))
/-! calls -/
theorem wz_good {y : MethodName} {b : ByteArray} {n : Nat} {ret : Option FieldType} (h : Cond.code y b n ret ∈ bigW) : GoodIn bigW (.code y b n ret :: bigW) := by
  intro w hw
  have hm : w ∈ bigW := by
    rcases List.mem_cons.mp hw with e | e
    · rw [e]; exact h
    · exact e
  exact ⟨hm, bigW_good w hm⟩
theorem wz_goodV {own C : String} {idx : Nat} {y : MethodName} {b : ByteArray} {n : Nat} {ret : Option FieldType} (h1 : Cond.methodLink own idx y ∈ bigW) (h2 : Cond.instanceMethod y ∈ bigW) (h3 : Cond.selects C y y ∈ bigW) (h4 : Cond.initialized C ∈ bigW) (h : Cond.code y b n ret ∈ bigW) : GoodIn bigW (wsV own idx C y (.code y b n ret :: bigW)) := by
  intro w hw
  have hm : w ∈ bigW := by
    rcases List.mem_append.mp hw with e | e
    · simp only [List.mem_cons, List.not_mem_nil, or_false] at e
      rcases e with e | e | e | e <;> rw [e] <;> assumption
    · exact (wz_good h w e).1
  exact ⟨hm, bigW_good w hm⟩
theorem wz_goodS {own : String} {idx : Nat} {y : MethodName} {b : ByteArray} {n : Nat} {ret : Option FieldType} (h1 : Cond.methodLink own idx y ∈ bigW) (h2 : Cond.static y ∈ bigW) (h4 : Cond.initialized y.cls ∈ bigW) (h : Cond.code y b n ret ∈ bigW) : GoodIn bigW (va_wsS own idx y (.code y b n ret :: bigW)) := by
  intro w hw
  have hm : w ∈ bigW := by
    rcases List.mem_append.mp hw with e | e
    · simp only [List.mem_cons, List.not_mem_nil, or_false] at e
      rcases e with e | e | e <;> rw [e] <;> assumption
    · exact (wz_good h w e).1
  exact ⟨hm, bigW_good w hm⟩
/-- the callee's groups, and the rest -/
def wz_Sp (D : va_G) (A : Nat → Prop) (gc gr : wz_G) (H : Heap) : Prop := va_P D vwCl (gc.flatten ++ gr.flatten) H ∧ va_D A (gc.flatten ++ gr.flatten)
theorem wz_split {n : Nat} (isC isR : List Nat) (hn : gs.length = n) (hp : (isC ++ isR).Perm (List.range n)) (hC : isC.map (fun i => gs[i]?) = gc.map some) (hR : isR.map (fun i => gs[i]?) = gr.map some) (hP : va_P D vwCl gs.flatten H) (hD : va_D A gs.flatten) : wz_Sp D A gc gr H := by
  have h := wz_ord (gs' := gc ++ gr) (isC ++ isR) hn hp (by rw [List.map_append, List.map_append, hC, hR]) hP hD
  rw [List.flatten_append] at h
  exact h
theorem wz_blind {av : List Value} {sz : Nat} (hL : wz_L.all wz_isN = true) : FrameBlind (wz_Pre D q av sz gc) := by
  intro a U g mk h
  obtain ⟨h1, h2, h3, h4, h5, h6⟩ := h
  exact ⟨h1, h2, h3, va_K.moved (u := U) (U := U.calling g mk a) (Vm.Alike.refl U.vm) h4, h5, wz_N.same (u := U) (U := U.calling g mk a) hL rfl h6⟩
theorem wz_preS {As : List Value} (hN : wz_N wz_L s) (hK : va_K D vwCl (wz_ty q) s) (hQ : wz_Sp D A gc gr H) (hL : wz_L.all wz_isN = true) : PreS s H (wz_Pre D q As H.size gc) As :=
  ⟨wz_blind hL, fun U hU hW => ⟨rfl, by rw [hU], by rw [hU]; exact wz_P_left hQ.1, va_K.moved hW.alike hK, (wz_D_left hQ.2).weaken (fun _ _ _ _ => trivial), hN.warm hL hW⟩⟩
theorem wz_preV {As : List Value} {C : String} {T : u_T} {N ci b gi k : Nat} {g : va_W} {fs : List Value} (hN : wz_N wz_L s) (hK : va_K D vwCl (wz_ty q) s) (hQ : wz_Sp D A gc gr H) (hL : wz_L.all wz_isN = true) (hg : gc[gi]? = some g) (he : g[k]? = some (b, .inr (ci, fs))) (hc : vwCl[ci]? = some (C, T, N)) : PreV s H C b (wz_Pre D q (.ref b :: As) H.size gc) As :=
  ⟨wz_blind hL, va_recv (q := (C, T, N)) hK (wz_P_left hQ.1) hc (wz_get_flat hg he), (wz_preS (As := .ref b :: As) hN hK hQ hL).2⟩
variable {mc ms : Nat} {st0 : List Value} {av : Array Value}
theorem wz_calli {post : Int32 → wz_G → Prop} (hr : va_Run p l e R s m args below meth c H locs cells slots mc ms (F0 m pc ls st0) rest (va_Qi post (wz_At D q (va_A gc.flatten H.size)) (va_A gc.flatten H.size) av) (va_A gc.flatten H.size)) (hQ : wz_Sp D A gc gr H) (hS : va_S A H0 H locs) (hA : ∀ k, H0.size ≤ k → A k)
    (kk : ∀ (r : Int32) (gx : wz_G) (H1 : Heap) (locs1 : List Loc), post r gx → va_P D vwCl (gx ++ gr).flatten H1 → va_D A (gx ++ gr).flatten → va_S A H0 H1 locs1 → W p l e R s m args below meth c H1 locs1 (cells + mc) (slots + ms) Q (F0 m (pc + 3) ls (.int r :: rest))) : W p l e R s m args below meth c H locs cells slots Q (F0 m pc ls st0) := by
  have hF : ∀ k, va_A gc.flatten H.size k → A k := fun k h => by
    rcases h with ⟨i, x, h⟩ | h
    · exact hQ.2.2 i (k, x) (by rw [List.getElem?_append_left (List.getElem?_eq_some_iff.mp h).1]; exact h)
    · exact hA k (Nat.le_trans hS.1 h)
  refine va_calli hr hS (fun k _ h => hF k h) hF (fun r u t H1 locs1 ht _ hp hB hz hk hS1 => ?_)
  obtain ⟨b1, -, b3⟩ := hB
  rw [ht] at b1
  have h := wz_join hQ.1 hQ.2 hk hF b1 b3
  rw [← List.flatten_append] at h
  exact kk r u H1 locs1 hp h.1 h.2 hS1
theorem wz_calll {post : Int64 → wz_G → Prop} (hr : va_Run p l e R s m args below meth c H locs cells slots mc ms (F0 m pc ls st0) rest (va_Ql post (wz_At D q (va_A gc.flatten H.size)) (va_A gc.flatten H.size) av) (va_A gc.flatten H.size)) (hQ : wz_Sp D A gc gr H) (hS : va_S A H0 H locs) (hA : ∀ k, H0.size ≤ k → A k)
    (kk : ∀ (r : Int64) (gx : wz_G) (H1 : Heap) (locs1 : List Loc), post r gx → va_P D vwCl (gx ++ gr).flatten H1 → va_D A (gx ++ gr).flatten → va_S A H0 H1 locs1 → W p l e R s m args below meth c H1 locs1 (cells + mc) (slots + ms) Q (F0 m (pc + 3) ls (.long r :: rest))) : W p l e R s m args below meth c H locs cells slots Q (F0 m pc ls st0) := by
  have hF : ∀ k, va_A gc.flatten H.size k → A k := fun k h => by
    rcases h with ⟨i, x, h⟩ | h
    · exact hQ.2.2 i (k, x) (by rw [List.getElem?_append_left (List.getElem?_eq_some_iff.mp h).1]; exact h)
    · exact hA k (Nat.le_trans hS.1 h)
  refine va_calll hr hS (fun k _ h => hF k h) hF (fun r u t H1 locs1 ht _ hp hB hz hk hS1 => ?_)
  obtain ⟨b1, -, b3⟩ := hB
  rw [ht] at b1
  have h := wz_join hQ.1 hQ.2 hk hF b1 b3
  rw [← List.flatten_append] at h
  exact kk r u H1 locs1 hp h.1 h.2 hS1
theorem wz_callv {post : wz_G → Prop} (hr : va_Run p l e R s m args below meth c H locs cells slots mc ms (F0 m pc ls st0) rest (va_Qv post (wz_At D q (va_A gc.flatten H.size)) (va_A gc.flatten H.size) av) (va_A gc.flatten H.size)) (hQ : wz_Sp D A gc gr H) (hS : va_S A H0 H locs) (hA : ∀ k, H0.size ≤ k → A k)
    (kk : ∀ (gx : wz_G) (H1 : Heap) (locs1 : List Loc), post gx → va_P D vwCl (gx ++ gr).flatten H1 → va_D A (gx ++ gr).flatten → va_S A H0 H1 locs1 → W p l e R s m args below meth c H1 locs1 (cells + mc) (slots + ms) Q (F0 m (pc + 3) ls rest)) : W p l e R s m args below meth c H locs cells slots Q (F0 m pc ls st0) := by
  have hF : ∀ k, va_A gc.flatten H.size k → A k := fun k h => by
    rcases h with ⟨i, x, h⟩ | h
    · exact hQ.2.2 i (k, x) (by rw [List.getElem?_append_left (List.getElem?_eq_some_iff.mp h).1]; exact h)
    · exact hA k (Nat.le_trans hS.1 h)
  refine va_callv hr hS (fun k _ h => hF k h) hF (fun u t H1 locs1 ht _ hp hB hz hk hS1 => ?_)
  obtain ⟨b1, -, b3⟩ := hB
  rw [ht] at b1
  have h := wz_join hQ.1 hQ.2 hk hF b1 b3
  rw [← List.flatten_append] at h
  exact kk u H1 locs1 hp h.1 h.2 hS1
theorem wz_callr {post : Nat → wz_G → Prop} (hr : va_Run p l e R s m args below meth c H locs cells slots mc ms (F0 m pc ls st0) rest (va_Qr (fun u : Nat × wz_G => post u.1 u.2) (fun u a t => a = u.1 ∧ wz_At D q (va_A gc.flatten H.size) u.2 t) (va_A gc.flatten H.size) av) (va_A gc.flatten H.size)) (hQ : wz_Sp D A gc gr H) (hS : va_S A H0 H locs) (hA : ∀ k, H0.size ≤ k → A k)
    (kk : ∀ (r : Nat) (gx : wz_G) (H1 : Heap) (locs1 : List Loc), post r gx → va_P D vwCl (gx ++ gr).flatten H1 → va_D A (gx ++ gr).flatten → va_S A H0 H1 locs1 → W p l e R s m args below meth c H1 locs1 (cells + mc) (slots + ms) Q (F0 m (pc + 3) ls (.ref r :: rest))) : W p l e R s m args below meth c H locs cells slots Q (F0 m pc ls st0) := by
  have hF : ∀ k, va_A gc.flatten H.size k → A k := fun k h => by
    rcases h with ⟨i, x, h⟩ | h
    · exact hQ.2.2 i (k, x) (by rw [List.getElem?_append_left (List.getElem?_eq_some_iff.mp h).1]; exact h)
    · exact hA k (Nat.le_trans hS.1 h)
  refine va_callr hr hS (fun k _ h => hF k h) hF (fun u ra t H1 locs1 ht _ hp hB hz hk hS1 => ?_)
  obtain ⟨e1, b1, -, b3⟩ := hB
  subst e1
  rw [ht] at b1
  have h := wz_join hQ.1 hQ.2 hk hF b1 b3
  rw [← List.flatten_append] at h
  exact kk u.1 u.2 H1 locs1 hp h.1 h.2 hS1
end WZ
