/-! ROWS OF THE LAW: contracts over one group; the reference's world -/
theorem wz_met {l : Launch} {y : MethodName} {ws : List Cond} {rm : Room} {Pc Pc' : Array Value → State → Prop} {Qc Qc' : Array Value → State → Outcome → State → Prop} {mc ms : Nat} {free free' : Addr → Prop} (h : Met l y ws rm Pc Qc mc ms free) (hP : ∀ a s, Pc' a s → Pc a s) (hQ : ∀ a s o t, Qc a s o t → Qc' a s o t) (hf : ∀ x, free x → free' x) : Met l y ws rm Pc' Qc' mc ms free' := by
  intro p e h1 h2 h3 s m args below h4 h5 h6 h7
  obtain ⟨n, o, a1, a2, a3, a4, L, a5, a6⟩ := h p e h1 h2 h3 s m args below h4 h5 (hP _ _ h6) h7
  exact ⟨n, o, a1, a2, a3, hQ _ _ _ _ a4, L, a5, fun q hq => hf _ (a6 q hq)⟩
theorem wz_flat1 (gs : wz_G) : ([gs.flatten] : wz_G).flatten = gs.flatten := by simp
theorem wz_flat_Mi {l : Launch} {y : MethodName} {w : List Cond} {rm : Room} {D : va_G} {q : wz_Q} {av : List Value} {gs : wz_G} {post : Int32 → wz_G → Prop} {mc ms : Nat} (h : wz_Mi l y w rm D q av gs post mc ms) : wz_Mi l y w rm D q av [gs.flatten] (fun v g => ∃ g', g = [g'.flatten] ∧ post v g') mc ms := by
  intro sz
  refine wz_met (h sz) (fun a s hp => ?_) (fun a s o t hq => ?_) (fun x hx => ?_)
  · unfold wz_Pre at hp ⊢; rw [wz_flat1] at hp; exact hp
  · rw [wz_flat1]
    obtain ⟨⟨r, u, h1, h2, h3⟩, h4⟩ := hq
    refine ⟨⟨r, [u.flatten], h1, ⟨u, rfl, h2⟩, ?_⟩, h4⟩
    unfold wz_At at h3 ⊢; rw [wz_flat1]; exact h3
  · rw [wz_flat1]; exact hx
theorem wz_flat_Ml {l : Launch} {y : MethodName} {w : List Cond} {rm : Room} {D : va_G} {q : wz_Q} {av : List Value} {gs : wz_G} {post : Int64 → wz_G → Prop} {mc ms : Nat} (h : wz_Ml l y w rm D q av gs post mc ms) : wz_Ml l y w rm D q av [gs.flatten] (fun v g => ∃ g', g = [g'.flatten] ∧ post v g') mc ms := by
  intro sz
  refine wz_met (h sz) (fun a s hp => ?_) (fun a s o t hq => ?_) (fun x hx => ?_)
  · unfold wz_Pre at hp ⊢; rw [wz_flat1] at hp; exact hp
  · rw [wz_flat1]
    obtain ⟨⟨r, u, h1, h2, h3⟩, h4⟩ := hq
    refine ⟨⟨r, [u.flatten], h1, ⟨u, rfl, h2⟩, ?_⟩, h4⟩
    unfold wz_At at h3 ⊢; rw [wz_flat1]; exact h3
  · rw [wz_flat1]; exact hx
theorem wz_flat_Mv {l : Launch} {y : MethodName} {w : List Cond} {rm : Room} {D : va_G} {q : wz_Q} {av : List Value} {gs : wz_G} {post : wz_G → Prop} {mc ms : Nat} (h : wz_Mv l y w rm D q av gs post mc ms) : wz_Mv l y w rm D q av [gs.flatten] (fun g => ∃ g', g = [g'.flatten] ∧ post g') mc ms := by
  intro sz
  refine wz_met (h sz) (fun a s hp => ?_) (fun a s o t hq => ?_) (fun x hx => ?_)
  · unfold wz_Pre at hp ⊢; rw [wz_flat1] at hp; exact hp
  · rw [wz_flat1]
    obtain ⟨⟨u, h1, h2, h3⟩, h4⟩ := hq
    refine ⟨⟨[u.flatten], h1, ⟨u, rfl, h2⟩, ?_⟩, h4⟩
    unfold wz_At at h3 ⊢; rw [wz_flat1]; exact h3
  · rw [wz_flat1]; exact hx
/-- what the reference found -/
def cz_f (F : cx_F) (fd : Int32) (ln : Nat) (fw : Int64) (ms ts : Nat → Int32) : Prop := match F with
  | none => fd = nI 0
  | some (len, mv, tm, w9) => fd = nI 1 ∧ ln = len ∧ len < 40320 ∧ fw = w9 ∧ ∀ i, i < len → ms i = nI (mv i) ∧ ts i = nI (tm i)
/-- what the reference knows -/
def cz_h (n k : Nat) (sg tu : Nat → Nat → Nat) (od : Nat → Nat) (sa gl : Nat) (F : cx_F) (kn bk : Int32) (sz : Nat) (fd : Int32) (ln : Nat) (fw : Int64) (to fo sb gb st sp : Nat → Int32) (wy : Nat → Int64) (se ms ts : Nat → Int32) : Prop :=
  (1 ≤ n ∧ n ≤ 8 ∧ k ≤ 6) ∧ zm_ok n k to fo sg tu od ∧ zs_ok n sb sa ∧ zs_ok n gb gl ∧ ln ≤ 40320 ∧ (∀ mu, mu ≤ 1 → kn = nI mu → (bk = nI 0 → ∃ S, sz = S.1.length ∧ zk n k 0 sg tu od mu sa S st sp wy se) ∧ (bk = nI 1 → ∃ S, sz = S.1.length ∧ zk n k 6 sg tu od mu gl S st sp wy se)) ∧ cz_f F fd ln fw ms ts
theorem cz_new {mu : Nat} (h : (-1 : Int32) = nI mu) (hm : mu ≤ 1) : False := by
  have h1 : ¬ nI mu < 0 := nI_pos (by omega)
  rw [← h] at h1
  exact h1 (by decide)
theorem nI_bk01 : ¬ (nI 0 : Int32) = nI 1 := by decide
/-- a run of the program is a run of the reference -/
theorem cz_row {n k mu sa gl len : Nat} {sg tu : Nat → Nat → Nat} {od : Nat → Nat} {mv tm X mv' tm' X' : Nat → Nat} (h : pz_row k (bl_mt (nI mu) od) (bl_g n 0 sg tu) (pz_dist (bl_s n k 6 sg tu od (nI mu)) gl) sa len mv tm X) (h' : pz_row k (bl_mt (nI mu) od) (bl_g n 0 sg tu) (pz_dist (bl_s n k 6 sg tu od (nI mu)) gl) sa len mv' tm' X') {i : Nat} (hi : i < len) : mv i = mv' i ∧ tm i = tm' i := (pz_row_eq h h' len (Nat.le_refl _)).2 i hi
