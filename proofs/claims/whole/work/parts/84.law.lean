theorem lw_rf {x y : Int32} {mu mo : Nat} (h : ¬ (x = nI 0 ∨ x = nI 1) ∨ y < 0) (h1 : mu ≤ 1) (h2 : x = nI mu) (h3 : mo < 2 ^ 31) (h4 : y = nI mo) : False := by
  rcases h with h | h
  · refine h ?_
    rcases (show mu = 0 ∨ mu = 1 by omega) with rfl | rfl
    · exact Or.inl h2
    · exact Or.inr h2
  · rw [h4] at h
    exact nI_pos h3 h
theorem cz_kn6 {n k mu sa gl : Nat} {sg tu : Nat → Nat → Nat} {od : Nat → Nat} {S : pz_S} {st sp se : Nat → Int32} {wy : Nat → Int64} (hmu : mu ≤ 1) (h : zk n k 6 sg tu od mu gl S st sp wy se) : ∀ mu', mu' ≤ 1 → nI mu = nI mu' → (nI 1 = nI 0 → ∃ S', S.1.length = S'.1.length ∧ zk n k 0 sg tu od mu' sa S' st sp wy se) ∧ (nI 1 = nI 1 → ∃ S', S.1.length = S'.1.length ∧ zk n k 6 sg tu od mu' gl S' st sp wy se) := by
  intro mu' h1 h2
  obtain rfl : mu = mu' := (nI_eq (by omega) (by omega)).mp h2
  exact ⟨fun q => absurd q.symm nI_bk01, fun _ => ⟨S, rfl, h⟩⟩
theorem cz_kn0 {n k mu sa gl : Nat} {sg tu : Nat → Nat → Nat} {od : Nat → Nat} {S : pz_S} {st sp se : Nat → Int32} {wy : Nat → Int64} (hmu : mu ≤ 1) (h : zk n k 0 sg tu od mu sa S st sp wy se) : ∀ mu', mu' ≤ 1 → nI mu = nI mu' → (nI 0 = nI 0 → ∃ S', S.1.length = S'.1.length ∧ zk n k 0 sg tu od mu' sa S' st sp wy se) ∧ (nI 0 = nI 1 → ∃ S', S.1.length = S'.1.length ∧ zk n k 6 sg tu od mu' gl S' st sp wy se) := by
  intro mu' h1 h2
  obtain rfl : mu = mu' := (nI_eq (by omega) (by omega)).mp h2
  exact ⟨fun _ => ⟨S, rfl, h⟩, fun q => absurd q nI_bk01⟩
theorem lw_step {F : cx_F} {fd : Int32} {ln : Nat} {fw : Int64} {ms ts : Nat → Int32} {x b9 v v' : Int32} (h : match F with
  | none => v = -1
  | some (len, mv, tm, _) => ((¬ ∃ j, j < len ∧ x = nI j) ∧ v = -1) ∨ ∃ j, j < len ∧ x = nI j ∧ v = if b9 = 0 then nI (mv j) else nI (tm j)) (hF : cz_f F fd ln fw ms ts) (h' : ((fd = 0 ∨ ¬ ∃ j, j < ln ∧ x = nI j) ∧ v' = -1) ∨ (¬ fd = 0 ∧ ∃ j, j < ln ∧ x = nI j ∧ v' = if b9 = 0 then ms j else ts j)) (hl : ln ≤ 40320) : v = v' := by
  cases F with
  | none =>
    have hF : fd = nI 0 := hF
    have h : v = -1 := h
    rcases h' with ⟨_, e⟩ | ⟨e, _⟩
    · rw [h, e]
    · exact absurd hF e
  | some F9 =>
    obtain ⟨len, mv, tm, w9⟩ := F9
    obtain ⟨f1, rfl, _, _, f5⟩ := hF
    rcases h with ⟨h1, h2⟩ | ⟨j, hj, h1, h2⟩
    · rcases h' with ⟨_, e⟩ | ⟨_, j, hj, e1, _⟩
      · rw [h2, e]
      · exact absurd ⟨j, hj, e1⟩ h1
    · rcases h' with ⟨e | e, _⟩ | ⟨_, j2, hj2, e1, e2⟩
      · rw [f1] at e; exact absurd e (by decide)
      · exact absurd ⟨j, hj, h1⟩ e
      · obtain rfl : j = j2 := (nI_eq (by omega) (by omega)).mp (h1.symm.trans e1)
        rw [h2, e2, (f5 j hj).1, (f5 j hj).2]
theorem lw_ways {F : cx_F} {fd : Int32} {ln : Nat} {fw v v' : Int64} {ms ts : Nat → Int32} (h : v = match F with
  | none => 0
  | some (_, _, _, w9) => w9) (hF : cz_f F fd ln fw ms ts) (h' : v' = if fd = 0 then 0 else fw) : v = v' := by
  cases F with
  | none =>
    have hF : fd = 0 := hF
    rw [h, h', if_pos hF]
  | some F9 =>
    obtain ⟨f1, _, _, f4, _⟩ := hF
    rw [h, h', if_neg (by rw [f1]; decide), f4]

theorem kw_291 : (Cond.methodLink "TwoEndSearchLaw" 41 ⟨"TwoEndSearch", "run", "(II)I"⟩ : Cond) ∈ bigW := bigW_of 291 (by decide +kernel) (by decide +kernel)
theorem kw_292 : (Cond.instanceMethod ⟨"TwoEndSearch", "run", "(II)I"⟩ : Cond) ∈ bigW := bigW_of 292 (by decide +kernel) (by decide +kernel)
theorem kw_293 : (Cond.selects "TwoEndSearch" ⟨"TwoEndSearch", "run", "(II)I"⟩ ⟨"TwoEndSearch", "run", "(II)I"⟩ : Cond) ∈ bigW := bigW_of 293 (by decide +kernel) (by decide +kernel)
theorem kw_294 : (Cond.code ⟨"TwoEndSearch", "run", "(II)I"⟩ prog_1_method_6_code 3 (some .int) : Cond) ∈ bigW := bigW_of 294 (by decide +kernel) (by decide +kernel)
theorem kw_396 : (Cond.methodLink "TwoEndSearchLaw" 46 ⟨"TwoEndSearch", "step", "(IZ)I"⟩ : Cond) ∈ bigW := bigW_of 396 (by decide +kernel) (by decide +kernel)
theorem kw_397 : (Cond.instanceMethod ⟨"TwoEndSearch", "step", "(IZ)I"⟩ : Cond) ∈ bigW := bigW_of 397 (by decide +kernel) (by decide +kernel)
theorem kw_398 : (Cond.selects "TwoEndSearch" ⟨"TwoEndSearch", "step", "(IZ)I"⟩ ⟨"TwoEndSearch", "step", "(IZ)I"⟩ : Cond) ∈ bigW := bigW_of 398 (by decide +kernel) (by decide +kernel)
theorem kw_399 : (Cond.code ⟨"TwoEndSearch", "step", "(IZ)I"⟩ prog_1_method_7_code 4 (some .int) : Cond) ∈ bigW := bigW_of 399 (by decide +kernel) (by decide +kernel)
theorem kw_400 : (Cond.methodLink "TwoEndSearchLaw" 51 ⟨"TwoEndSearch", "ways", "()J"⟩ : Cond) ∈ bigW := bigW_of 400 (by decide +kernel) (by decide +kernel)
theorem kw_401 : (Cond.instanceMethod ⟨"TwoEndSearch", "ways", "()J"⟩ : Cond) ∈ bigW := bigW_of 401 (by decide +kernel) (by decide +kernel)
theorem kw_402 : (Cond.selects "TwoEndSearch" ⟨"TwoEndSearch", "ways", "()J"⟩ ⟨"TwoEndSearch", "ways", "()J"⟩ : Cond) ∈ bigW := bigW_of 402 (by decide +kernel) (by decide +kernel)
theorem kw_403 : (Cond.code ⟨"TwoEndSearch", "ways", "()J"⟩ prog_1_method_8_code 1 (some .long) : Cond) ∈ bigW := bigW_of 403 (by decide +kernel) (by decide +kernel)
theorem kw_563 : (Cond.methodLink "TwoEndSearchLaw" 45 ⟨"TwoEndSearchModel", "run", "(II)I"⟩ : Cond) ∈ bigW := bigW_of 563 (by decide +kernel) (by decide +kernel)
theorem kw_564 : (Cond.instanceMethod ⟨"TwoEndSearchModel", "run", "(II)I"⟩ : Cond) ∈ bigW := bigW_of 564 (by decide +kernel) (by decide +kernel)
theorem kw_565 : (Cond.selects "TwoEndSearchModel" ⟨"TwoEndSearchModel", "run", "(II)I"⟩ ⟨"TwoEndSearchModel", "run", "(II)I"⟩ : Cond) ∈ bigW := bigW_of 565 (by decide +kernel) (by decide +kernel)
theorem kw_566 : (Cond.code ⟨"TwoEndSearchModel", "run", "(II)I"⟩ prog_7_method_22_code 11 (some .int) : Cond) ∈ bigW := bigW_of 566 (by decide +kernel) (by decide +kernel)
theorem kw_603 : (Cond.methodLink "TwoEndSearchLaw" 50 ⟨"TwoEndSearchModel", "step", "(IZ)I"⟩ : Cond) ∈ bigW := bigW_of 603 (by decide +kernel) (by decide +kernel)
theorem kw_604 : (Cond.instanceMethod ⟨"TwoEndSearchModel", "step", "(IZ)I"⟩ : Cond) ∈ bigW := bigW_of 604 (by decide +kernel) (by decide +kernel)
theorem kw_605 : (Cond.selects "TwoEndSearchModel" ⟨"TwoEndSearchModel", "step", "(IZ)I"⟩ ⟨"TwoEndSearchModel", "step", "(IZ)I"⟩ : Cond) ∈ bigW := bigW_of 605 (by decide +kernel) (by decide +kernel)
theorem kw_606 : (Cond.code ⟨"TwoEndSearchModel", "step", "(IZ)I"⟩ prog_7_method_23_code 3 (some .int) : Cond) ∈ bigW := bigW_of 606 (by decide +kernel) (by decide +kernel)
theorem kw_607 : (Cond.methodLink "TwoEndSearchLaw" 55 ⟨"TwoEndSearchModel", "ways", "()J"⟩ : Cond) ∈ bigW := bigW_of 607 (by decide +kernel) (by decide +kernel)
theorem kw_608 : (Cond.instanceMethod ⟨"TwoEndSearchModel", "ways", "()J"⟩ : Cond) ∈ bigW := bigW_of 608 (by decide +kernel) (by decide +kernel)
theorem kw_609 : (Cond.selects "TwoEndSearchModel" ⟨"TwoEndSearchModel", "ways", "()J"⟩ ⟨"TwoEndSearchModel", "ways", "()J"⟩ : Cond) ∈ bigW := bigW_of 609 (by decide +kernel) (by decide +kernel)
theorem kw_610 : (Cond.code ⟨"TwoEndSearchModel", "ways", "()J"⟩ prog_7_method_24_code 1 (some .long) : Cond) ∈ bigW := bigW_of 610 (by decide +kernel) (by decide +kernel)
set_option maxHeartbeats 4000000 in
set_option maxRecDepth 100000 in
/-- the law, call 4 -/
theorem lw_case_4 {p : Program} {l : Launch} {e : Env} {s : State} {m : MethodId} {below : List Frame} {meth : Method} {c : Code} {D : va_G} {q : wz_Q} {bs L : Nat} {xs : Nat → Int32} (hx : p.tables.exec = Jvm.exec) (hb : c.code = code) (hml : c.maxLocals = 4) (hown : s.vm.findClass "TwoEndSearchLaw" = some m.cls) (hts : ∀ w ∈ bigW, w.before #[Value.ref bs] s = true) (hN : wz_N wz_L s) (hK : va_K D vwCl (wz_ty q) s) (hX : va_X bs L xs s s.heap) (hbl : bs < s.heap.size) (hL : L ≤ 2049) {ax n i : Nat} {az : Nat → Nat} (hi : i + 4 ≤ L) (hk9 : ∀ (k : Nat) (sg tu : Nat → Nat → Nat) (od : Nat → Nat) (sa gl : Nat) (F : cx_F) (WX : wz_G) (th kn bk : Int32) (sz : Nat) (fd : Int32) (ln : Nat) (fm : Int32) (fw : Int64) (to fo sb gb st sp : Nat → Int32) (wy : Nat → Int64) (se ms ts r1 r2 : Nat → Int32), cx q ax n k sg tu od sa gl F WX → cz_h n k sg tu od sa gl F kn bk sz fd ln fw to fo sb gb st sp wy se ms ts → ∀ (H : Heap) (locs : List Loc) (ls : Array Slot), va_P D vwCl ([WX.flatten, zo_W q az th n k kn bk sz fd ln fm fw, zt_W q az to fo, zs_W q az sb gb, zb_W q az st sp wy se, zf_W q az ms ts, zq_W q az r1 r2] : wz_G).flatten H → va_D (fun k9 : Nat => s.heap.size ≤ k9) ([WX.flatten, zo_W q az th n k kn bk sz fd ln fm fw, zt_W q az to fo, zs_W q az sb gb, zb_W q az st sp wy se, zf_W q az ms ts, zq_W q az r1 r2] : wz_G).flatten → va_S (fun k9 : Nat => s.heap.size ≤ k9) s.heap H locs → lv_has ls 4 [(0, .ref bs), (1, .ref ax), (2, .ref (az 0)), (3, .int (nI i))] → W p l e room_1 s m #[Value.ref bs] below meth c H locs 600000 7302250 (lw_Z below #[Value.ref bs] s) (F0 m 454 ls [])) : ∀ (k : Nat) (sg tu : Nat → Nat → Nat) (od : Nat → Nat) (sa gl : Nat) (F : cx_F) (WX : wz_G) (th kn bk : Int32) (sz : Nat) (fd : Int32) (ln : Nat) (fm : Int32) (fw : Int64) (to fo sb gb st sp : Nat → Int32) (wy : Nat → Int64) (se ms ts r1 r2 : Nat → Int32), cx q ax n k sg tu od sa gl F WX → cz_h n k sg tu od sa gl F kn bk sz fd ln fw to fo sb gb st sp wy se ms ts → ∀ (H : Heap) (locs : List Loc) (ls : Array Slot), va_P D vwCl ([WX.flatten, zo_W q az th n k kn bk sz fd ln fm fw, zt_W q az to fo, zs_W q az sb gb, zb_W q az st sp wy se, zf_W q az ms ts, zq_W q az r1 r2] : wz_G).flatten H → va_D (fun k9 : Nat => s.heap.size ≤ k9) ([WX.flatten, zo_W q az th n k kn bk sz fd ln fm fw, zt_W q az to fo, zs_W q az sb gb, zb_W q az st sp wy se, zf_W q az ms ts, zq_W q az r1 r2] : wz_G).flatten → va_S (fun k9 : Nat => s.heap.size ≤ k9) s.heap H locs → lv_has ls 4 [(0, .ref bs), (1, .ref ax), (2, .ref (az 0)), (3, .int (nI i))] → W p l e room_1 s m #[Value.ref bs] below meth c H locs 600000 7302250 (lw_Z below #[Value.ref bs] s) (F0 m 238 ls []) := by
  intro k sg tu od sa gl F WX th kn bk sz fd ln fm fw to fo sb gb st sp wy se ms ts r1 r2 hcx hcz H locs ls hP hD hS hl
  obtain ⟨⟨hn1, hn, hk⟩, hzm, hzs, hzg, hzl, hkn, hfd⟩ := hcz
  have hA : ∀ k9 : Nat, s.heap.size ≤ k9 → (fun k9 : Nat => s.heap.size ≤ k9) k9 := fun _ h => h
  have hbA : ¬ (fun k9 : Nat => s.heap.size ≤ k9) bs := Nat.not_le.mpr hbl
  refine lv_aload_n hx hb d_L_law_238 rfl (lv_at hl 1 rfl) ?_
  refine lv_aload_n hx hb d_L_law_239 rfl (lv_at hl 0 rfl) ?_
  refine lv_iload_n hx hb d_L_law_240 rfl (lv_at hl 3 rfl) ?_
  refine lv_iconst (v := nI 1) hx hb d_L_law_241 (by decide) ?_
  refine lv_iadd hx hb d_L_law_242 ?_
  refine wz_topi (y := nI (i + 1)) (nI_add i 1) ?_
  refine va_sld hx hb hX hbl hbA hS (vp_in_nI (n := (i + 1)) (N := L) (by omega) (by omega)) d_L_law_243 ?_
  refine wz_topi (y := xs (i + 1)) (congrArg xs (nI_clamp (by omega))) ?_
  refine lv_aload_n hx hb d_L_law_244 rfl (lv_at hl 0 rfl) ?_
  refine lv_iload_n hx hb d_L_law_245 rfl (lv_at hl 3 rfl) ?_
  refine lv_iconst (v := nI 2) hx hb d_L_law_246 (by decide) ?_
  refine lv_iadd hx hb d_L_law_247 ?_
  refine wz_topi (y := nI (i + 2)) (nI_add i 2) ?_
  refine va_sld hx hb hX hbl hbA hS (vp_in_nI (n := (i + 2)) (N := L) (by omega) (by omega)) d_L_law_248 ?_
  refine wz_topi (y := xs (i + 2)) (congrArg xs (nI_clamp (by omega))) ?_
  obtain ⟨fs, hfs⟩ := cx_hd hcx
  have hQ := wz_split (n := 7) (gc := [WX.flatten]) (gr := [zo_W q az th n k kn bk sz fd ln fm fw, zt_W q az to fo, zs_W q az sb gb, zb_W q az st sp wy se, zf_W q az ms ts, zq_W q az r1 r2]) [0] [1, 2, 3, 4, 5, 6] rfl (by decide) rfl rfl hP hD
  refine wz_calli (va_runV (As := [.int (xs (i + 1)), .int (xs (i + 2))]) (rest := []) ⟨hx, hb, hml, hown, hts⟩ (wz_flat_Mi (c_X_run l D q ax n k sg tu od sa gl F (xs (i + 1)) (xs (i + 2)) WX hcx) _) (cwV 2 hts (wz_goodV kw_291 kw_292 kw_293 kw_30 kw_294) rfl rfl rfl (by decide +kernel) ⟨Nat.le_of_ble_eq_true rfl, Nat.le_of_ble_eq_true rfl⟩) (wz_preV (gi := 0) (k := 0) hN hK hQ wz_L_ok rfl hfs rfl) rfl rfl hl.1 rfl (lv_room (Nat.le_of_ble_eq_true rfl)) d_L_law_249 ⟨Nat.le_of_ble_eq_true rfl, Nat.le_of_ble_eq_true rfl⟩) hQ hS hA (fun v_249 gx H locs hp hP hD hS => ?_)
  obtain ⟨WY, rfl, hpx⟩ := hp
  obtain ⟨hP, hD⟩ := wz_ord (n := 7) (gs' := [WY.flatten, zo_W q az th n k kn bk sz fd ln fm fw, zt_W q az to fo, zs_W q az sb gb, zb_W q az st sp wy se, zf_W q az ms ts, zq_W q az r1 r2]) [0, 1, 2, 3, 4, 5, 6] rfl (by decide) rfl hP hD
  refine lv_aload_n hx hb d_L_law_252 rfl (lv_at hl 2 rfl) ?_
  refine lv_aload_n hx hb d_L_law_253 rfl (lv_at hl 0 rfl) ?_
  refine lv_iload_n hx hb d_L_law_254 rfl (lv_at hl 3 rfl) ?_
  refine lv_iconst (v := nI 1) hx hb d_L_law_255 (by decide) ?_
  refine lv_iadd hx hb d_L_law_256 ?_
  refine wz_topi (y := nI (i + 1)) (nI_add i 1) ?_
  refine va_sld hx hb hX hbl hbA hS (vp_in_nI (n := (i + 1)) (N := L) (by omega) (by omega)) d_L_law_257 ?_
  refine wz_topi (y := xs (i + 1)) (congrArg xs (nI_clamp (by omega))) ?_
  refine lv_aload_n hx hb d_L_law_258 rfl (lv_at hl 0 rfl) ?_
  refine lv_iload_n hx hb d_L_law_259 rfl (lv_at hl 3 rfl) ?_
  refine lv_iconst (v := nI 2) hx hb d_L_law_260 (by decide) ?_
  refine lv_iadd hx hb d_L_law_261 ?_
  refine wz_topi (y := nI (i + 2)) (nI_add i 2) ?_
  refine va_sld hx hb hX hbl hbA hS (vp_in_nI (n := (i + 2)) (N := L) (by omega) (by omega)) d_L_law_262 ?_
  refine wz_topi (y := xs (i + 2)) (congrArg xs (nI_clamp (by omega))) ?_
  have hQ := wz_split (n := 7) (gc := [zo_W q az th n k kn bk sz fd ln fm fw, zt_W q az to fo, zs_W q az sb gb, zb_W q az st sp wy se, zf_W q az ms ts]) (gr := [WY.flatten, zq_W q az r1 r2]) [1, 2, 3, 4, 5] [0, 6] rfl (by decide) rfl rfl hP hD
  refine wz_calli (va_runV (As := [.int (xs (i + 1)), .int (xs (i + 2))]) (rest := [.int v_249]) ⟨hx, hb, hml, hown, hts⟩ (c_Z_run l D q az th n k kn bk sz fd ln fm fw to fo sb gb st sp wy se ms ts sg tu od sa gl (xs (i + 1)) (xs (i + 2)) hn hk hzm hzs hzg (fun mu hm h1 h2 => (hkn mu hm h1).2 h2) _) (cwV 2 hts (wz_goodV kw_563 kw_564 kw_565 kw_37 kw_566) rfl rfl rfl (by decide +kernel) ⟨Nat.le_of_ble_eq_true rfl, Nat.le_of_ble_eq_true rfl⟩) (wz_preV (gi := 0) (k := 0) hN hK hQ wz_L_ok rfl rfl rfl) rfl rfl hl.1 rfl (lv_room (Nat.le_of_ble_eq_true rfl)) d_L_law_263 ⟨Nat.le_of_ble_eq_true rfl, Nat.le_of_ble_eq_true rfl⟩) hQ hS hA (fun v_263 gx H locs hpz hP hD hS => ?_)
  rcases hpx with ⟨hrf, hvx, hcx'⟩ | ⟨mu, mo, hmu, hx1, hmo, hy1, hresx⟩
  · skip
    obtain ⟨_, hvz, rfl⟩ := hpz.resolve_right (fun ⟨mu, mo, _, _, _, _, _, h1, h2, h3, h4, _⟩ => lw_rf hrf h1 h2 h3 h4)
    subst hvx
    subst hvz
    obtain ⟨hP, hD⟩ := wz_ord (n := 7) (gs' := [WY.flatten, zo_W q az (nI 0) n k kn bk sz fd ln fm fw, zt_W q az to fo, zs_W q az sb gb, zb_W q az st sp wy se, zf_W q az ms ts, zq_W q az r1 r2]) [5, 0, 1, 2, 3, 4, 6] rfl (by decide) rfl hP hD
    refine lv_icmp_eq (tgt := 454) hx hb d_L_law_266 (by decide) (fun hc => ?_) (fun hc => ?_)
    · skip
      exact hk9 k sg tu od sa gl F WY (nI 0) kn bk sz fd ln fm fw to fo sb gb st sp wy se ms ts r1 r2 hcx' ⟨⟨hn1, hn, hk⟩, hzm, hzs, hzg, hzl, hkn, hfd⟩ _ _ _ hP hD hS (lv_sub hl [0, 1, 2, 3] rfl)
    · skip
      exact absurd rfl hc
  · skip
    obtain ⟨mu2, mo2, S, st1, sp1, wy1, se1, hmu2, hx2, hmo2, hy2, hzk, hresz⟩ := hpz.resolve_left (fun ⟨hrf, _⟩ => lw_rf hrf hmu hx1 hmo hy1)
    obtain rfl : mu = mu2 := (nI_eq (by omega) (by omega)).mp (hx1.symm.trans hx2)
    obtain rfl : mo = mo2 := (nI_eq (by omega) (by omega)).mp (hy1.symm.trans hy2)
    have hkn2 := cz_kn6 (sa := sa) hmu hzk
    rcases hresx with ⟨hvx, hcx', hnx⟩ | ⟨len, mv9, tm9, X9, hvx, hcx', hdx, hlx, hrx⟩
    · skip
      obtain ⟨hvz, rfl, _⟩ := hresz.resolve_right (fun ⟨len, _, _, _, _, _, _, _, hd, hl9, _⟩ => by have := hnx len hd; omega)
      subst hvx
      subst hvz
      obtain ⟨hP, hD⟩ := wz_ord (n := 7) (gs' := [WY.flatten, zo_W q az (nI 0) n k (nI mu) (nI 1) S.1.length (nI 0) ln fm fw, zt_W q az to fo, zs_W q az sb gb, zb_W q az st1 sp1 wy1 se1, zf_W q az ms ts, zq_W q az r1 r2]) [5, 0, 1, 2, 3, 4, 6] rfl (by decide) rfl hP hD
      refine lv_icmp_eq (tgt := 454) hx hb d_L_law_266 (by decide) (fun hc => ?_) (fun hc => ?_)
      · skip
        exact hk9 k sg tu od sa gl none WY (nI 0) (nI mu) (nI 1) S.1.length (nI 0) ln fm fw to fo sb gb st1 sp1 wy1 se1 ms ts r1 r2 hcx' ⟨⟨hn1, hn, hk⟩, hzm, hzs, hzg, hzl, hkn2, rfl⟩ _ _ _ hP hD hS (lv_sub hl [0, 1, 2, 3] rfl)
      · skip
        exact absurd rfl hc
    · skip
      obtain ⟨len2, mv2, tm2, Y2, ms', ts', hvz, rfl, hdz, hlz, hl4, hrz, hmt⟩ := hresz.resolve_left (fun ⟨_, _, hnz⟩ => by have := hnz len hdx; omega)
      obtain rfl : len = len2 := pz_dist_eq hdx hdz
      subst hvx
      subst hvz
      have hfd2 : cz_f (some (len, mv9, tm9, lN (pz_cnt gl (pz_ends (bl_s n k 0 sg tu od (nI mu)) sa len)))) (nI 1) len (lN (pz_cnt gl (pz_ends (bl_s n k 0 sg tu od (nI mu)) sa len))) ms' ts' := ⟨rfl, rfl, hl4, rfl, fun j hj => by
        obtain ⟨h1, h2⟩ := cz_row hrx hrz hj
        rw [h1, h2]; exact hmt j hj⟩
      obtain ⟨hP, hD⟩ := wz_ord (n := 7) (gs' := [WY.flatten, zo_W q az (nI 0) n k (nI mu) (nI 1) S.1.length (nI 1) len fm (lN (pz_cnt gl (pz_ends (bl_s n k 0 sg tu od (nI mu)) sa len))), zt_W q az to fo, zs_W q az sb gb, zb_W q az st1 sp1 wy1 se1, zf_W q az ms' ts', zq_W q az r1 r2]) [5, 0, 1, 2, 3, 4, 6] rfl (by decide) rfl hP hD
      refine lv_icmp_eq (tgt := 454) hx hb d_L_law_266 (by decide) (fun hc => ?_) (fun hc => ?_)
      · skip
        exact hk9 k sg tu od sa gl (some (len, mv9, tm9, lN (pz_cnt gl (pz_ends (bl_s n k 0 sg tu od (nI mu)) sa len)))) WY (nI 0) (nI mu) (nI 1) S.1.length (nI 1) len fm (lN (pz_cnt gl (pz_ends (bl_s n k 0 sg tu od (nI mu)) sa len))) to fo sb gb st1 sp1 wy1 se1 ms' ts' r1 r2 hcx' ⟨⟨hn1, hn, hk⟩, hzm, hzs, hzg, by omega, hkn2, hfd2⟩ _ _ _ hP hD hS (lv_sub hl [0, 1, 2, 3] rfl)
      · skip
        exact absurd rfl hc
set_option maxHeartbeats 4000000 in
set_option maxRecDepth 100000 in
/-- the law, call 5 -/
theorem lw_case_5 {p : Program} {l : Launch} {e : Env} {s : State} {m : MethodId} {below : List Frame} {meth : Method} {c : Code} {D : va_G} {q : wz_Q} {bs L : Nat} {xs : Nat → Int32} (hx : p.tables.exec = Jvm.exec) (hb : c.code = code) (hml : c.maxLocals = 4) (hown : s.vm.findClass "TwoEndSearchLaw" = some m.cls) (hts : ∀ w ∈ bigW, w.before #[Value.ref bs] s = true) (hN : wz_N wz_L s) (hK : va_K D vwCl (wz_ty q) s) (hX : va_X bs L xs s s.heap) (hbl : bs < s.heap.size) (hL : L ≤ 2049) {ax n i : Nat} {az : Nat → Nat} (hi : i + 4 ≤ L) (hk9 : ∀ (k : Nat) (sg tu : Nat → Nat → Nat) (od : Nat → Nat) (sa gl : Nat) (F : cx_F) (WX : wz_G) (th kn bk : Int32) (sz : Nat) (fd : Int32) (ln : Nat) (fm : Int32) (fw : Int64) (to fo sb gb st sp : Nat → Int32) (wy : Nat → Int64) (se ms ts r1 r2 : Nat → Int32), cx q ax n k sg tu od sa gl F WX → cz_h n k sg tu od sa gl F kn bk sz fd ln fw to fo sb gb st sp wy se ms ts → ∀ (H : Heap) (locs : List Loc) (ls : Array Slot), va_P D vwCl ([WX.flatten, zo_W q az th n k kn bk sz fd ln fm fw, zt_W q az to fo, zs_W q az sb gb, zb_W q az st sp wy se, zf_W q az ms ts, zq_W q az r1 r2] : wz_G).flatten H → va_D (fun k9 : Nat => s.heap.size ≤ k9) ([WX.flatten, zo_W q az th n k kn bk sz fd ln fm fw, zt_W q az to fo, zs_W q az sb gb, zb_W q az st sp wy se, zf_W q az ms ts, zq_W q az r1 r2] : wz_G).flatten → va_S (fun k9 : Nat => s.heap.size ≤ k9) s.heap H locs → lv_has ls 4 [(0, .ref bs), (1, .ref ax), (2, .ref (az 0)), (3, .int (nI i))] → W p l e room_1 s m #[Value.ref bs] below meth c H locs 600000 7302250 (lw_Z below #[Value.ref bs] s) (F0 m 454 ls [])) : ∀ (k : Nat) (sg tu : Nat → Nat → Nat) (od : Nat → Nat) (sa gl : Nat) (F : cx_F) (WX : wz_G) (th kn bk : Int32) (sz : Nat) (fd : Int32) (ln : Nat) (fm : Int32) (fw : Int64) (to fo sb gb st sp : Nat → Int32) (wy : Nat → Int64) (se ms ts r1 r2 : Nat → Int32), cx q ax n k sg tu od sa gl F WX → cz_h n k sg tu od sa gl F kn bk sz fd ln fw to fo sb gb st sp wy se ms ts → ∀ (H : Heap) (locs : List Loc) (ls : Array Slot), va_P D vwCl ([WX.flatten, zo_W q az th n k kn bk sz fd ln fm fw, zt_W q az to fo, zs_W q az sb gb, zb_W q az st sp wy se, zf_W q az ms ts, zq_W q az r1 r2] : wz_G).flatten H → va_D (fun k9 : Nat => s.heap.size ≤ k9) ([WX.flatten, zo_W q az th n k kn bk sz fd ln fm fw, zt_W q az to fo, zs_W q az sb gb, zb_W q az st sp wy se, zf_W q az ms ts, zq_W q az r1 r2] : wz_G).flatten → va_S (fun k9 : Nat => s.heap.size ≤ k9) s.heap H locs → lv_has ls 4 [(0, .ref bs), (1, .ref ax), (2, .ref (az 0)), (3, .int (nI i))] → W p l e room_1 s m #[Value.ref bs] below meth c H locs 600000 7302250 (lw_Z below #[Value.ref bs] s) (F0 m 271 ls []) := by
  intro k sg tu od sa gl F WX th kn bk sz fd ln fm fw to fo sb gb st sp wy se ms ts r1 r2 hcx hcz H locs ls hP hD hS hl
  obtain ⟨⟨hn1, hn, hk⟩, hzm, hzs, hzg, hzl, hkn, hfd⟩ := hcz
  have hA : ∀ k9 : Nat, s.heap.size ≤ k9 → (fun k9 : Nat => s.heap.size ≤ k9) k9 := fun _ h => h
  have hbA : ¬ (fun k9 : Nat => s.heap.size ≤ k9) bs := Nat.not_le.mpr hbl
  refine lv_aload_n hx hb d_L_law_271 rfl (lv_at hl 1 rfl) ?_
  refine lv_aload_n hx hb d_L_law_272 rfl (lv_at hl 0 rfl) ?_
  refine lv_iload_n hx hb d_L_law_273 rfl (lv_at hl 3 rfl) ?_
  refine lv_iconst (v := nI 1) hx hb d_L_law_274 (by decide) ?_
  refine lv_iadd hx hb d_L_law_275 ?_
  refine wz_topi (y := nI (i + 1)) (nI_add i 1) ?_
  refine va_sld hx hb hX hbl hbA hS (vp_in_nI (n := (i + 1)) (N := L) (by omega) (by omega)) d_L_law_276 ?_
  refine wz_topi (y := xs (i + 1)) (congrArg xs (nI_clamp (by omega))) ?_
  refine lv_aload_n hx hb d_L_law_277 rfl (lv_at hl 0 rfl) ?_
  refine lv_iload_n hx hb d_L_law_278 rfl (lv_at hl 3 rfl) ?_
  refine lv_iconst (v := nI 2) hx hb d_L_law_279 (by decide) ?_
  refine lv_iadd hx hb d_L_law_280 ?_
  refine wz_topi (y := nI (i + 2)) (nI_add i 2) ?_
  refine va_sld hx hb hX hbl hbA hS (vp_in_nI (n := (i + 2)) (N := L) (by omega) (by omega)) d_L_law_281 ?_
  refine wz_topi (y := xs (i + 2)) (congrArg xs (nI_clamp (by omega))) ?_
  refine lv_if_eq (tgt := 289) hx hb d_L_law_282 (by decide) (fun hb1 => ?_) (fun hb1 => ?_)
  · skip
    refine lv_iconst (v := nI 0) hx hb d_L_law_289 (by decide) ?_
    obtain ⟨fs, hfs⟩ := cx_hd hcx
    have hQ := wz_split (n := 7) (gc := [WX.flatten]) (gr := [zo_W q az th n k kn bk sz fd ln fm fw, zt_W q az to fo, zs_W q az sb gb, zb_W q az st sp wy se, zf_W q az ms ts, zq_W q az r1 r2]) [0] [1, 2, 3, 4, 5, 6] rfl (by decide) rfl rfl hP hD
    refine wz_calli (va_runV (As := [.int (xs (i + 1)), .int (nI 0)]) (rest := []) ⟨hx, hb, hml, hown, hts⟩ (wz_flat_Mi (c_X_step l D q ax n k sg tu od sa gl F (xs (i + 1)) (nI 0) WX hcx) _) (cwV 2 hts (wz_goodV kw_396 kw_397 kw_398 kw_30 kw_399) rfl rfl rfl (by decide +kernel) ⟨Nat.le_of_ble_eq_true rfl, Nat.le_of_ble_eq_true rfl⟩) (wz_preV (gi := 0) (k := 0) hN hK hQ wz_L_ok rfl hfs rfl) rfl rfl hl.1 rfl (lv_room (Nat.le_of_ble_eq_true rfl)) d_L_law_290 ⟨Nat.le_of_ble_eq_true rfl, Nat.le_of_ble_eq_true rfl⟩) hQ hS hA (fun v_290 gx H locs hp hP hD hS => ?_)
    obtain ⟨WY, rfl, hpx⟩ := hp
    obtain ⟨hP, hD⟩ := wz_ord (n := 7) (gs' := [WY.flatten, zo_W q az th n k kn bk sz fd ln fm fw, zt_W q az to fo, zs_W q az sb gb, zb_W q az st sp wy se, zf_W q az ms ts, zq_W q az r1 r2]) [0, 1, 2, 3, 4, 5, 6] rfl (by decide) rfl hP hD
    obtain ⟨hcx', hvx⟩ := hpx
    refine lv_aload_n hx hb d_L_law_293 rfl (lv_at hl 2 rfl) ?_
    refine lv_aload_n hx hb d_L_law_294 rfl (lv_at hl 0 rfl) ?_
    refine lv_iload_n hx hb d_L_law_295 rfl (lv_at hl 3 rfl) ?_
    refine lv_iconst (v := nI 1) hx hb d_L_law_296 (by decide) ?_
    refine lv_iadd hx hb d_L_law_297 ?_
    refine wz_topi (y := nI (i + 1)) (nI_add i 1) ?_
    refine va_sld hx hb hX hbl hbA hS (vp_in_nI (n := (i + 1)) (N := L) (by omega) (by omega)) d_L_law_298 ?_
    refine wz_topi (y := xs (i + 1)) (congrArg xs (nI_clamp (by omega))) ?_
    refine lv_aload_n hx hb d_L_law_299 rfl (lv_at hl 0 rfl) ?_
    refine lv_iload_n hx hb d_L_law_300 rfl (lv_at hl 3 rfl) ?_
    refine lv_iconst (v := nI 2) hx hb d_L_law_301 (by decide) ?_
    refine lv_iadd hx hb d_L_law_302 ?_
    refine wz_topi (y := nI (i + 2)) (nI_add i 2) ?_
    refine va_sld hx hb hX hbl hbA hS (vp_in_nI (n := (i + 2)) (N := L) (by omega) (by omega)) d_L_law_303 ?_
    refine wz_topi (y := xs (i + 2)) (congrArg xs (nI_clamp (by omega))) ?_
    refine lv_if_eq (tgt := 311) hx hb d_L_law_304 (by decide) (fun hb2 => ?_) (fun hb2 => ?_)
    · skip
      refine lv_iconst (v := nI 0) hx hb d_L_law_311 (by decide) ?_
      have hQ := wz_split (n := 7) (gc := [zo_W q az th n k kn bk sz fd ln fm fw, zf_W q az ms ts]) (gr := [WY.flatten, zt_W q az to fo, zs_W q az sb gb, zb_W q az st sp wy se, zq_W q az r1 r2]) [1, 5] [0, 2, 3, 4, 6] rfl (by decide) rfl rfl hP hD
      refine wz_calli (va_runV (As := [.int (xs (i + 1)), .int (nI 0)]) (rest := [.int v_290]) ⟨hx, hb, hml, hown, hts⟩ (c_Z_step l D q az th n k kn bk sz fd ln fm fw ms ts (xs (i + 1)) (nI 0) hzl _) (cwV 2 hts (wz_goodV kw_603 kw_604 kw_605 kw_37 kw_606) rfl rfl rfl (by decide +kernel) ⟨Nat.le_of_ble_eq_true rfl, Nat.le_of_ble_eq_true rfl⟩) (wz_preV (gi := 0) (k := 0) hN hK hQ wz_L_ok rfl rfl rfl) rfl rfl hl.1 rfl (lv_room (Nat.le_of_ble_eq_true rfl)) d_L_law_312 ⟨Nat.le_of_ble_eq_true rfl, Nat.le_of_ble_eq_true rfl⟩) hQ hS hA (fun v_312 gx H locs hpz hP hD hS => ?_)
      obtain ⟨rfl, hvz⟩ := hpz
      obtain ⟨hP, hD⟩ := wz_ord (n := 7) (gs' := [WY.flatten, zo_W q az (nI 0) n k kn bk sz fd ln fm fw, zt_W q az to fo, zs_W q az sb gb, zb_W q az st sp wy se, zf_W q az ms ts, zq_W q az r1 r2]) [2, 0, 3, 4, 5, 1, 6] rfl (by decide) rfl hP hD
      refine lv_icmp_eq (tgt := 454) hx hb d_L_law_315 (by decide) (fun hc => ?_) (fun hc => ?_)
      · skip
        exact hk9 k sg tu od sa gl F WY (nI 0) kn bk sz fd ln fm fw to fo sb gb st sp wy se ms ts r1 r2 hcx' ⟨⟨hn1, hn, hk⟩, hzm, hzs, hzg, hzl, hkn, hfd⟩ _ _ _ hP hD hS (lv_sub hl [0, 1, 2, 3] rfl)
      · skip
        exact absurd (lw_step hvx hfd hvz hzl) hc
    · skip
      exact absurd hb1 hb2
  · skip
    refine lv_iconst (v := nI 1) hx hb d_L_law_285 (by decide) ?_
    refine lv_goto (tgt := 290) hx hb d_L_law_286 (by decide) ?_
    obtain ⟨fs, hfs⟩ := cx_hd hcx
    have hQ := wz_split (n := 7) (gc := [WX.flatten]) (gr := [zo_W q az th n k kn bk sz fd ln fm fw, zt_W q az to fo, zs_W q az sb gb, zb_W q az st sp wy se, zf_W q az ms ts, zq_W q az r1 r2]) [0] [1, 2, 3, 4, 5, 6] rfl (by decide) rfl rfl hP hD
    refine wz_calli (va_runV (As := [.int (xs (i + 1)), .int (nI 1)]) (rest := []) ⟨hx, hb, hml, hown, hts⟩ (wz_flat_Mi (c_X_step l D q ax n k sg tu od sa gl F (xs (i + 1)) (nI 1) WX hcx) _) (cwV 2 hts (wz_goodV kw_396 kw_397 kw_398 kw_30 kw_399) rfl rfl rfl (by decide +kernel) ⟨Nat.le_of_ble_eq_true rfl, Nat.le_of_ble_eq_true rfl⟩) (wz_preV (gi := 0) (k := 0) hN hK hQ wz_L_ok rfl hfs rfl) rfl rfl hl.1 rfl (lv_room (Nat.le_of_ble_eq_true rfl)) d_L_law_290 ⟨Nat.le_of_ble_eq_true rfl, Nat.le_of_ble_eq_true rfl⟩) hQ hS hA (fun v_290 gx H locs hp hP hD hS => ?_)
    obtain ⟨WY, rfl, hpx⟩ := hp
    obtain ⟨hP, hD⟩ := wz_ord (n := 7) (gs' := [WY.flatten, zo_W q az th n k kn bk sz fd ln fm fw, zt_W q az to fo, zs_W q az sb gb, zb_W q az st sp wy se, zf_W q az ms ts, zq_W q az r1 r2]) [0, 1, 2, 3, 4, 5, 6] rfl (by decide) rfl hP hD
    obtain ⟨hcx', hvx⟩ := hpx
    refine lv_aload_n hx hb d_L_law_293 rfl (lv_at hl 2 rfl) ?_
    refine lv_aload_n hx hb d_L_law_294 rfl (lv_at hl 0 rfl) ?_
    refine lv_iload_n hx hb d_L_law_295 rfl (lv_at hl 3 rfl) ?_
    refine lv_iconst (v := nI 1) hx hb d_L_law_296 (by decide) ?_
    refine lv_iadd hx hb d_L_law_297 ?_
    refine wz_topi (y := nI (i + 1)) (nI_add i 1) ?_
    refine va_sld hx hb hX hbl hbA hS (vp_in_nI (n := (i + 1)) (N := L) (by omega) (by omega)) d_L_law_298 ?_
    refine wz_topi (y := xs (i + 1)) (congrArg xs (nI_clamp (by omega))) ?_
    refine lv_aload_n hx hb d_L_law_299 rfl (lv_at hl 0 rfl) ?_
    refine lv_iload_n hx hb d_L_law_300 rfl (lv_at hl 3 rfl) ?_
    refine lv_iconst (v := nI 2) hx hb d_L_law_301 (by decide) ?_
    refine lv_iadd hx hb d_L_law_302 ?_
    refine wz_topi (y := nI (i + 2)) (nI_add i 2) ?_
    refine va_sld hx hb hX hbl hbA hS (vp_in_nI (n := (i + 2)) (N := L) (by omega) (by omega)) d_L_law_303 ?_
    refine wz_topi (y := xs (i + 2)) (congrArg xs (nI_clamp (by omega))) ?_
    refine lv_if_eq (tgt := 311) hx hb d_L_law_304 (by decide) (fun hb2 => ?_) (fun hb2 => ?_)
    · skip
      exact absurd hb2 hb1
    · skip
      refine lv_iconst (v := nI 1) hx hb d_L_law_307 (by decide) ?_
      refine lv_goto (tgt := 312) hx hb d_L_law_308 (by decide) ?_
      have hQ := wz_split (n := 7) (gc := [zo_W q az th n k kn bk sz fd ln fm fw, zf_W q az ms ts]) (gr := [WY.flatten, zt_W q az to fo, zs_W q az sb gb, zb_W q az st sp wy se, zq_W q az r1 r2]) [1, 5] [0, 2, 3, 4, 6] rfl (by decide) rfl rfl hP hD
      refine wz_calli (va_runV (As := [.int (xs (i + 1)), .int (nI 1)]) (rest := [.int v_290]) ⟨hx, hb, hml, hown, hts⟩ (c_Z_step l D q az th n k kn bk sz fd ln fm fw ms ts (xs (i + 1)) (nI 1) hzl _) (cwV 2 hts (wz_goodV kw_603 kw_604 kw_605 kw_37 kw_606) rfl rfl rfl (by decide +kernel) ⟨Nat.le_of_ble_eq_true rfl, Nat.le_of_ble_eq_true rfl⟩) (wz_preV (gi := 0) (k := 0) hN hK hQ wz_L_ok rfl rfl rfl) rfl rfl hl.1 rfl (lv_room (Nat.le_of_ble_eq_true rfl)) d_L_law_312 ⟨Nat.le_of_ble_eq_true rfl, Nat.le_of_ble_eq_true rfl⟩) hQ hS hA (fun v_312 gx H locs hpz hP hD hS => ?_)
      obtain ⟨rfl, hvz⟩ := hpz
      obtain ⟨hP, hD⟩ := wz_ord (n := 7) (gs' := [WY.flatten, zo_W q az (nI 0) n k kn bk sz fd ln fm fw, zt_W q az to fo, zs_W q az sb gb, zb_W q az st sp wy se, zf_W q az ms ts, zq_W q az r1 r2]) [2, 0, 3, 4, 5, 1, 6] rfl (by decide) rfl hP hD
      refine lv_icmp_eq (tgt := 454) hx hb d_L_law_315 (by decide) (fun hc => ?_) (fun hc => ?_)
      · skip
        exact hk9 k sg tu od sa gl F WY (nI 0) kn bk sz fd ln fm fw to fo sb gb st sp wy se ms ts r1 r2 hcx' ⟨⟨hn1, hn, hk⟩, hzm, hzs, hzg, hzl, hkn, hfd⟩ _ _ _ hP hD hS (lv_sub hl [0, 1, 2, 3] rfl)
      · skip
        exact absurd (lw_step hvx hfd hvz hzl) hc
set_option maxHeartbeats 4000000 in
set_option maxRecDepth 100000 in
/-- the law, call 6 -/
theorem lw_case_6 {p : Program} {l : Launch} {e : Env} {s : State} {m : MethodId} {below : List Frame} {meth : Method} {c : Code} {D : va_G} {q : wz_Q} {bs L : Nat} {xs : Nat → Int32} (hx : p.tables.exec = Jvm.exec) (hb : c.code = code) (hml : c.maxLocals = 4) (hown : s.vm.findClass "TwoEndSearchLaw" = some m.cls) (hts : ∀ w ∈ bigW, w.before #[Value.ref bs] s = true) (hN : wz_N wz_L s) (hK : va_K D vwCl (wz_ty q) s) (hX : va_X bs L xs s s.heap) (hbl : bs < s.heap.size) (hL : L ≤ 2049) {ax n i : Nat} {az : Nat → Nat} (hi : i + 4 ≤ L) (hk9 : ∀ (k : Nat) (sg tu : Nat → Nat → Nat) (od : Nat → Nat) (sa gl : Nat) (F : cx_F) (WX : wz_G) (th kn bk : Int32) (sz : Nat) (fd : Int32) (ln : Nat) (fm : Int32) (fw : Int64) (to fo sb gb st sp : Nat → Int32) (wy : Nat → Int64) (se ms ts r1 r2 : Nat → Int32), cx q ax n k sg tu od sa gl F WX → cz_h n k sg tu od sa gl F kn bk sz fd ln fw to fo sb gb st sp wy se ms ts → ∀ (H : Heap) (locs : List Loc) (ls : Array Slot), va_P D vwCl ([WX.flatten, zo_W q az th n k kn bk sz fd ln fm fw, zt_W q az to fo, zs_W q az sb gb, zb_W q az st sp wy se, zf_W q az ms ts, zq_W q az r1 r2] : wz_G).flatten H → va_D (fun k9 : Nat => s.heap.size ≤ k9) ([WX.flatten, zo_W q az th n k kn bk sz fd ln fm fw, zt_W q az to fo, zs_W q az sb gb, zb_W q az st sp wy se, zf_W q az ms ts, zq_W q az r1 r2] : wz_G).flatten → va_S (fun k9 : Nat => s.heap.size ≤ k9) s.heap H locs → lv_has ls 4 [(0, .ref bs), (1, .ref ax), (2, .ref (az 0)), (3, .int (nI i))] → W p l e room_1 s m #[Value.ref bs] below meth c H locs 600000 7302250 (lw_Z below #[Value.ref bs] s) (F0 m 454 ls [])) : ∀ (k : Nat) (sg tu : Nat → Nat → Nat) (od : Nat → Nat) (sa gl : Nat) (F : cx_F) (WX : wz_G) (th kn bk : Int32) (sz : Nat) (fd : Int32) (ln : Nat) (fm : Int32) (fw : Int64) (to fo sb gb st sp : Nat → Int32) (wy : Nat → Int64) (se ms ts r1 r2 : Nat → Int32), cx q ax n k sg tu od sa gl F WX → cz_h n k sg tu od sa gl F kn bk sz fd ln fw to fo sb gb st sp wy se ms ts → ∀ (H : Heap) (locs : List Loc) (ls : Array Slot), va_P D vwCl ([WX.flatten, zo_W q az th n k kn bk sz fd ln fm fw, zt_W q az to fo, zs_W q az sb gb, zb_W q az st sp wy se, zf_W q az ms ts, zq_W q az r1 r2] : wz_G).flatten H → va_D (fun k9 : Nat => s.heap.size ≤ k9) ([WX.flatten, zo_W q az th n k kn bk sz fd ln fm fw, zt_W q az to fo, zs_W q az sb gb, zb_W q az st sp wy se, zf_W q az ms ts, zq_W q az r1 r2] : wz_G).flatten → va_S (fun k9 : Nat => s.heap.size ≤ k9) s.heap H locs → lv_has ls 4 [(0, .ref bs), (1, .ref ax), (2, .ref (az 0)), (3, .int (nI i))] → W p l e room_1 s m #[Value.ref bs] below meth c H locs 600000 7302250 (lw_Z below #[Value.ref bs] s) (F0 m 320 ls []) := by
  intro k sg tu od sa gl F WX th kn bk sz fd ln fm fw to fo sb gb st sp wy se ms ts r1 r2 hcx hcz H locs ls hP hD hS hl
  obtain ⟨⟨hn1, hn, hk⟩, hzm, hzs, hzg, hzl, hkn, hfd⟩ := hcz
  have hA : ∀ k9 : Nat, s.heap.size ≤ k9 → (fun k9 : Nat => s.heap.size ≤ k9) k9 := fun _ h => h
  have hbA : ¬ (fun k9 : Nat => s.heap.size ≤ k9) bs := Nat.not_le.mpr hbl
  refine lv_aload_n hx hb d_L_law_320 rfl (lv_at hl 1 rfl) ?_
  obtain ⟨fs, hfs⟩ := cx_hd hcx
  have hQ := wz_split (n := 7) (gc := [WX.flatten]) (gr := [zo_W q az th n k kn bk sz fd ln fm fw, zt_W q az to fo, zs_W q az sb gb, zb_W q az st sp wy se, zf_W q az ms ts, zq_W q az r1 r2]) [0] [1, 2, 3, 4, 5, 6] rfl (by decide) rfl rfl hP hD
  refine wz_calll (va_runV (As := []) (rest := []) ⟨hx, hb, hml, hown, hts⟩ (wz_flat_Ml (c_X_ways l D q ax n k sg tu od sa gl F WX hcx) _) (cwV 0 hts (wz_goodV kw_400 kw_401 kw_402 kw_30 kw_403) rfl rfl rfl (by decide +kernel) ⟨Nat.le_of_ble_eq_true rfl, Nat.le_of_ble_eq_true rfl⟩) (wz_preV (gi := 0) (k := 0) hN hK hQ wz_L_ok rfl hfs rfl) rfl rfl hl.1 rfl (lv_room (Nat.le_of_ble_eq_true rfl)) d_L_law_321 ⟨Nat.le_of_ble_eq_true rfl, Nat.le_of_ble_eq_true rfl⟩) hQ hS hA (fun v_321 gx H locs hp hP hD hS => ?_)
  obtain ⟨WY, rfl, hpx⟩ := hp
  obtain ⟨hP, hD⟩ := wz_ord (n := 7) (gs' := [WY.flatten, zo_W q az th n k kn bk sz fd ln fm fw, zt_W q az to fo, zs_W q az sb gb, zb_W q az st sp wy se, zf_W q az ms ts, zq_W q az r1 r2]) [0, 1, 2, 3, 4, 5, 6] rfl (by decide) rfl hP hD
  obtain ⟨hcx', hvx⟩ := hpx
  refine lv_aload_n hx hb d_L_law_324 rfl (lv_at hl 2 rfl) ?_
  have hQ := wz_split (n := 7) (gc := [zo_W q az th n k kn bk sz fd ln fm fw]) (gr := [WY.flatten, zt_W q az to fo, zs_W q az sb gb, zb_W q az st sp wy se, zf_W q az ms ts, zq_W q az r1 r2]) [1] [0, 2, 3, 4, 5, 6] rfl (by decide) rfl rfl hP hD
  refine wz_calll (va_runV (As := []) (rest := [.long v_321]) ⟨hx, hb, hml, hown, hts⟩ (c_Z_ways l D q az th n k kn bk sz fd ln fm fw _) (cwV 0 hts (wz_goodV kw_607 kw_608 kw_609 kw_37 kw_610) rfl rfl rfl (by decide +kernel) ⟨Nat.le_of_ble_eq_true rfl, Nat.le_of_ble_eq_true rfl⟩) (wz_preV (gi := 0) (k := 0) hN hK hQ wz_L_ok rfl rfl rfl) rfl rfl hl.1 rfl (lv_room (Nat.le_of_ble_eq_true rfl)) d_L_law_325 ⟨Nat.le_of_ble_eq_true rfl, Nat.le_of_ble_eq_true rfl⟩) hQ hS hA (fun v_325 gx H locs hpz hP hD hS => ?_)
  obtain ⟨rfl, hvz⟩ := hpz
  obtain ⟨hP, hD⟩ := wz_ord (n := 7) (gs' := [WY.flatten, zo_W q az (nI 0) n k kn bk sz fd ln fm fw, zt_W q az to fo, zs_W q az sb gb, zb_W q az st sp wy se, zf_W q az ms ts, zq_W q az r1 r2]) [1, 0, 2, 3, 4, 5, 6] rfl (by decide) rfl hP hD
  refine W.lcmp hx hb d_L_law_328 ?_
  refine lv_if_eq (tgt := 454) hx hb d_L_law_329 (by decide) (fun hc => ?_) (fun hc => ?_)
  · skip
    exact hk9 k sg tu od sa gl F WY (nI 0) kn bk sz fd ln fm fw to fo sb gb st sp wy se ms ts r1 r2 hcx' ⟨⟨hn1, hn, hk⟩, hzm, hzs, hzg, hzl, hkn, hfd⟩ _ _ _ hP hD hS (lv_sub hl [0, 1, 2, 3] rfl)
  · skip
    exact absurd ((lg_cmp_eq _ _).mpr (lw_ways hvx hfd hvz)) hc
