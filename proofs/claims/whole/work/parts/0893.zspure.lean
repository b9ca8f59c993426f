/-! PURE: the reference's spread -/
def zM (sg tu : Nat → Nat → Nat) (u p : Nat) : Int32 := if u < 6 then nI (sg u p) else nI (tu (u - 6) p)
theorem zm_mv {n k : Nat} {to fo : Nat → Int32} {sg tu : Nat → Nat → Nat} {od : Nat → Nat} (hk : k ≤ 6) (h : zm_ok n k to fo sg tu od) : mv_ok n k (fun o => nI (od o)) (zM sg tu) sg tu od := by
  intro o ho
  obtain ⟨a1, a2, a3, a4⟩ := h o ho
  refine ⟨a1, a2, rfl, fun p hp => ⟨?_, ?_⟩⟩
  · unfold zM; rw [if_pos (by omega)]
  · unfold zM; rw [if_neg (by omega), Nat.add_sub_cancel]
theorem zm_mt_eq {n k o mu : Nat} {to fo : Nat → Int32} {sg tu : Nat → Nat → Nat} {od : Nat → Nat} (hk : k ≤ 6) (h : zm_ok n k to fo sg tu od) (ho : o < k) : (if nI mu = 0 then nI 1 else fo o - nI 1) = nI (bl_mt (nI mu) od o) := by
  rw [(h o ho).2.2.1]
  exact bl_mt_eq (zm_mv hk h) ho
theorem zm_g0 {n o : Nat} {sg tu : Nat → Nat → Nat} (ho : o < 6) : bl_g n 0 sg tu o = pz_act n (tu o) := by
  unfold bl_g gq_in
  rw [if_pos (by omega), Nat.zero_add]
theorem zm_g6 {n o : Nat} {sg tu : Nat → Nat → Nat} : bl_g n 6 sg tu o = pz_act n (sg o) := by
  unfold bl_g gq_in
  rw [if_neg (by omega), Nat.add_sub_cancel_left]
def zE : pz_S := ([], fun _ => none, fun _ => 0)
theorem zb_E {st sp se : Nat → Int32} {wy : Nat → Int64} (h : ∀ j, j < 65536 → se j = nI 0) : zb_ok zE st sp wy se :=
  ⟨⟨List.nodup_nil, fun c => ⟨fun q => (by cases q), fun q => absurd rfl q⟩⟩, fun i x q => (by cases q), fun _ => 0, h, pz_ht_nil (fun _ _ => rfl)⟩
theorem zE_take (r : Nat) : pz_take 0 zE r = ([r], pz_up (fun _ => none) r (some 0), pz_up (fun _ => 0) r 0) := if_pos rfl
theorem zb_first {r j : Nat} {st sp se : Nat → Int32} {wy : Nat → Int64} (h : zb_ok (pz_take 0 zE r) st sp wy se) (hj : (pz_take 0 zE r).1[j]? = some r) : j = 0 ∧ zb_ok (pz_S0 r) st sp (vp_updL wy j 1) se := by
  rw [zE_take] at h hj
  have hj1 := (List.getElem?_eq_some_iff.mp hj).1
  have hj0 : j = 0 := by
    have : j < 1 := hj1
    omega
  subst hj0
  refine ⟨rfl, h.1, fun i x hx => ?_, h.2.2⟩
  obtain ⟨h1, h2, h3⟩ := h.2.1 i x hx
  refine ⟨h1, h2, ?_⟩
  have hi1 : i < 1 := (List.getElem?_eq_some_iff.mp hx).1
  have hi0 : i = 0 := by omega
  subst hi0
  have hxr : x = r := (Option.some.inj hx).symm
  subst hxr
  show vp_updL wy 0 1 0 = pz_up (fun _ => 0) x 1 x
  rw [pk_uLs, pz_up_s]
/-- while a state is gone out from -/
def zsp (n r d9 i x : Nat) (wx : Int64) (S : pz_S) : Prop := (∀ c, c ∈ S.1 → pz_arr n r c) ∧ S.1[i]? = some x ∧ S.2.1 x = some d9 ∧ S.2.2 x = wx ∧ (∀ y e, S.2.1 y = some e → e < 2 ^ 30)
theorem zsp_take {n r d9 i x cd : Nat} {wx : Int64} {S : pz_S} (h : zsp n r d9 i x wx S) (hd : d9 < 2 ^ 29) (hc : pz_arr n r cd) : zsp n r d9 i x wx (pz_take (d9 + 1) S cd) := by
  obtain ⟨h1, h2, h3, h4, h5⟩ := h
  have hk := pz_take_keep (d := d9 + 1) (c := cd) h3
  refine ⟨fun c hm => ?_, ?_, hk.1, hk.2.trans h4, pz_take_lt h5 (by omega)⟩
  · rw [pz_take_1] at hm
    by_cases e : S.2.1 cd = none
    · rw [if_pos e, List.mem_append] at hm
      rcases hm with q | q
      · exact h1 c q
      · rw [List.mem_singleton.mp q]; exact hc
    · rw [if_neg e] at hm; exact h1 c hm
  · rw [pz_take_1]
    by_cases e : S.2.1 cd = none
    · rw [if_pos e, List.getElem?_append_left (List.getElem?_eq_some_iff.mp h2).1]; exact h2
    · rw [if_neg e]; exact h2
theorem zsp_bump {n r d9 i x cd : Nat} {wx w : Int64} {S : pz_S} (h : zsp n r d9 i x wx S) (hc : S.2.1 cd = some (d9 + 1)) : zsp n r d9 i x wx (pz_bump (d9 + 1) w S cd) := by
  obtain ⟨h1, h2, h3, h4, h5⟩ := h
  have hT : pz_bump (d9 + 1) w S cd = (S.1, S.2.1, pz_up S.2.2 cd (S.2.2 cd + w)) := if_pos hc
  rw [hT]
  have hne : x ≠ cd := fun q => by
    rw [q, hc] at h3
    have := Option.some.inj h3
    omega
  exact ⟨h1, h2, h3, (pz_up_n _ _ hne).trans h4, h5⟩
theorem zb_room {n r cd : Nat} {S : pz_S} (hn : n ≤ 8) (hok : pz_ok S) (hm : ∀ c, c ∈ S.1 → pz_arr n r c) (hc : pz_arr n r cd) (h0 : S.2.1 cd = none) : S.1.length < 40320 := by
  have hnm : cd ∉ S.1 := fun q => (hok.2 cd).mp q h0
  have h1 : (S.1 ++ [cd]).Nodup := by
    rw [List.nodup_append]
    exact ⟨hok.1, by simp, fun a ha b hb => by rw [List.mem_singleton.mp hb]; exact fun q => hnm (q ▸ ha)⟩
  have h2 := pz_arr_len (n := n) (a := r) h1 (fun c hc2 => by
    rcases List.mem_append.mp hc2 with q | q
    · exact hm c q
    · rw [List.mem_singleton.mp q]; exact hc)
  rw [List.length_append, List.length_singleton] at h2
  have := pz_fact_le hn
  omega
/-- a table that is whole -/
def zk (n k fw : Nat) (sg tu : Nat → Nat → Nat) (od : Nat → Nat) (mu r : Nat) (S : pz_S) (st sp : Nat → Int32) (wy : Nat → Int64) (se : Nat → Int32) : Prop := zb_ok S st sp wy se ∧ pz_inv (bl_s n k fw sg tu od (nI mu)) r S.1.length S ∧ ∀ c, c ∈ S.1 → pz_arr n r c
theorem zk_far {n k fw mu r i x d : Nat} {sg tu : Nat → Nat → Nat} {od : Nat → Nat} {S : pz_S} (hn : n ≤ 8) (harr : ∀ x, pz_arr n r x → ∀ y, y ∈ bl_s n k fw sg tu od (nI mu) x → pz_arr n r y) (hr : pz_arr n r r) (hinv : pz_inv (bl_s n k fw sg tu od (nI mu)) r i S) (h : S.2.1 x = some d) : d < 40320 :=
  Nat.lt_of_lt_of_le (pz_dist_len harr hr (pz_exact hinv h)) (pz_fact_le hn)
theorem zb_len {n r : Nat} {S : pz_S} (hn : n ≤ 8) (hok : pz_ok S) (hm : ∀ c, c ∈ S.1 → pz_arr n r c) : S.1.length ≤ 40320 := Nat.le_trans (pz_arr_len hok.1 hm) (pz_fact_le hn)
