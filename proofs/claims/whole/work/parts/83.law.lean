theorem mv_can_eq {n k : Nat} {sg : Nat → Nat → Nat} {x y z : Int32} {mo fr t mo' fr' t' : Nat} (hn : n ≤ 8) (hk : k ≤ 6) (h : mv_can n k sg x y z mo fr t) (h' : mv_can n k sg x y z mo' fr' t') : mo = mo' ∧ fr = fr' ∧ t = t' := by
  obtain ⟨a1, a2, a3, a4, a5, a6, _⟩ := h
  obtain ⟨b1, b2, b3, b4, b5, b6, _⟩ := h'
  exact ⟨(nI_eq (by omega) (by omega)).mp (a4.symm.trans b4), (nI_eq (by omega) (by omega)).mp (a5.symm.trans b5), (nI_eq (by omega) (by omega)).mp (a6.symm.trans b6)⟩
theorem zs_lab_if {n sa p j : Nat} {sb : Nat → Int32} {B : Int32} (h : zs_ok n sb sa) (hp : p < n) (hj : j < 8) : zs_ok n (if B = 0 then upd sb p (nI j) else sb) (if B = 0 then pz_lab sa p j else sa) := by
  by_cases e : B = 0
  · rw [if_pos e, if_pos e]; exact zs_lab h hp hj
  · rw [if_neg e, if_neg e]; exact h
theorem zs_lab_if2 {n sa p j : Nat} {sb : Nat → Int32} {B : Int32} (h : zs_ok n sb sa) (hp : p < n) (hj : j < 8) : zs_ok n (if B = 0 then sb else upd sb p (nI j)) (if B = 0 then sa else pz_lab sa p j) := by
  by_cases e : B = 0
  · rw [if_pos e, if_pos e]; exact h
  · rw [if_neg e, if_neg e]; exact zs_lab h hp hj
theorem zs_first {n : Nat} {sb : Nat → Int32} (hn : n ≤ 8) (h : ∀ p, p < 8 → sb p = nI p) : zs_ok n sb (pz_first n) := ⟨pz_first_lt hn, fun p hp => by rw [pz_first_dg hn p hp]; exact h p (by omega)⟩

theorem kw_246 : (Cond.methodLink "TwoEndSearchLaw" 26 ⟨"TwoEndSearch", "cycle", "(III)Z"⟩ : Cond) ∈ bigW := bigW_of 246 (by decide +kernel) (by decide +kernel)
theorem kw_247 : (Cond.instanceMethod ⟨"TwoEndSearch", "cycle", "(III)Z"⟩ : Cond) ∈ bigW := bigW_of 247 (by decide +kernel) (by decide +kernel)
theorem kw_248 : (Cond.selects "TwoEndSearch" ⟨"TwoEndSearch", "cycle", "(III)Z"⟩ ⟨"TwoEndSearch", "cycle", "(III)Z"⟩ : Cond) ∈ bigW := bigW_of 248 (by decide +kernel) (by decide +kernel)
theorem kw_249 : (Cond.code ⟨"TwoEndSearch", "cycle", "(III)Z"⟩ prog_1_method_3_code 5 (some .boolean) : Cond) ∈ bigW := bigW_of 249 (by decide +kernel) (by decide +kernel)
theorem kw_280 : (Cond.methodLink "TwoEndSearchLaw" 36 ⟨"TwoEndSearch", "label", "(ZII)Z"⟩ : Cond) ∈ bigW := bigW_of 280 (by decide +kernel) (by decide +kernel)
theorem kw_281 : (Cond.instanceMethod ⟨"TwoEndSearch", "label", "(ZII)Z"⟩ : Cond) ∈ bigW := bigW_of 281 (by decide +kernel) (by decide +kernel)
theorem kw_282 : (Cond.selects "TwoEndSearch" ⟨"TwoEndSearch", "label", "(ZII)Z"⟩ ⟨"TwoEndSearch", "label", "(ZII)Z"⟩ : Cond) ∈ bigW := bigW_of 282 (by decide +kernel) (by decide +kernel)
theorem kw_283 : (Cond.code ⟨"TwoEndSearch", "label", "(ZII)Z"⟩ prog_1_method_5_code 4 (some .boolean) : Cond) ∈ bigW := bigW_of 283 (by decide +kernel) (by decide +kernel)
theorem kw_438 : (Cond.methodLink "TwoEndSearchLaw" 71 ⟨"TwoEndSearch", "clear", "()V"⟩ : Cond) ∈ bigW := bigW_of 438 (by decide +kernel) (by decide +kernel)
theorem kw_439 : (Cond.instanceMethod ⟨"TwoEndSearch", "clear", "()V"⟩ : Cond) ∈ bigW := bigW_of 439 (by decide +kernel) (by decide +kernel)
theorem kw_440 : (Cond.selects "TwoEndSearch" ⟨"TwoEndSearch", "clear", "()V"⟩ ⟨"TwoEndSearch", "clear", "()V"⟩ : Cond) ∈ bigW := bigW_of 440 (by decide +kernel) (by decide +kernel)
theorem kw_441 : (Cond.code ⟨"TwoEndSearch", "clear", "()V"⟩ prog_1_method_12_code 1 none : Cond) ∈ bigW := bigW_of 441 (by decide +kernel) (by decide +kernel)
theorem kw_535 : (Cond.methodLink "TwoEndSearchLaw" 30 ⟨"TwoEndSearchModel", "cycle", "(III)Z"⟩ : Cond) ∈ bigW := bigW_of 535 (by decide +kernel) (by decide +kernel)
theorem kw_536 : (Cond.instanceMethod ⟨"TwoEndSearchModel", "cycle", "(III)Z"⟩ : Cond) ∈ bigW := bigW_of 536 (by decide +kernel) (by decide +kernel)
theorem kw_537 : (Cond.selects "TwoEndSearchModel" ⟨"TwoEndSearchModel", "cycle", "(III)Z"⟩ ⟨"TwoEndSearchModel", "cycle", "(III)Z"⟩ : Cond) ∈ bigW := bigW_of 537 (by decide +kernel) (by decide +kernel)
theorem kw_538 : (Cond.code ⟨"TwoEndSearchModel", "cycle", "(III)Z"⟩ prog_7_method_10_code 4 (some .boolean) : Cond) ∈ bigW := bigW_of 538 (by decide +kernel) (by decide +kernel)
theorem kw_555 : (Cond.methodLink "TwoEndSearchLaw" 40 ⟨"TwoEndSearchModel", "label", "(ZII)Z"⟩ : Cond) ∈ bigW := bigW_of 555 (by decide +kernel) (by decide +kernel)
theorem kw_556 : (Cond.instanceMethod ⟨"TwoEndSearchModel", "label", "(ZII)Z"⟩ : Cond) ∈ bigW := bigW_of 556 (by decide +kernel) (by decide +kernel)
theorem kw_557 : (Cond.selects "TwoEndSearchModel" ⟨"TwoEndSearchModel", "label", "(ZII)Z"⟩ ⟨"TwoEndSearchModel", "label", "(ZII)Z"⟩ : Cond) ∈ bigW := bigW_of 557 (by decide +kernel) (by decide +kernel)
theorem kw_558 : (Cond.code ⟨"TwoEndSearchModel", "label", "(ZII)Z"⟩ prog_7_method_12_code 4 (some .boolean) : Cond) ∈ bigW := bigW_of 558 (by decide +kernel) (by decide +kernel)
theorem kw_559 : (Cond.methodLink "TwoEndSearchLaw" 74 ⟨"TwoEndSearchModel", "clear", "()V"⟩ : Cond) ∈ bigW := bigW_of 559 (by decide +kernel) (by decide +kernel)
theorem kw_560 : (Cond.instanceMethod ⟨"TwoEndSearchModel", "clear", "()V"⟩ : Cond) ∈ bigW := bigW_of 560 (by decide +kernel) (by decide +kernel)
theorem kw_561 : (Cond.selects "TwoEndSearchModel" ⟨"TwoEndSearchModel", "clear", "()V"⟩ ⟨"TwoEndSearchModel", "clear", "()V"⟩ : Cond) ∈ bigW := bigW_of 561 (by decide +kernel) (by decide +kernel)
theorem kw_562 : (Cond.code ⟨"TwoEndSearchModel", "clear", "()V"⟩ prog_7_method_13_code 1 none : Cond) ∈ bigW := bigW_of 562 (by decide +kernel) (by decide +kernel)
set_option maxHeartbeats 4000000 in
set_option maxRecDepth 100000 in
/-- the law, call 1 -/
theorem lw_case_1 {p : Program} {l : Launch} {e : Env} {s : State} {m : MethodId} {below : List Frame} {meth : Method} {c : Code} {D : va_G} {q : wz_Q} {bs L : Nat} {xs : Nat → Int32} (hx : p.tables.exec = Jvm.exec) (hb : c.code = code) (hml : c.maxLocals = 4) (hown : s.vm.findClass "TwoEndSearchLaw" = some m.cls) (hts : ∀ w ∈ bigW, w.before #[Value.ref bs] s = true) (hN : wz_N wz_L s) (hK : va_K D vwCl (wz_ty q) s) (hX : va_X bs L xs s s.heap) (hbl : bs < s.heap.size) (hL : L ≤ 2049) {ax n i : Nat} {az : Nat → Nat} (hi : i + 4 ≤ L) (hk9 : ∀ (k : Nat) (sg tu : Nat → Nat → Nat) (od : Nat → Nat) (sa gl : Nat) (F : cx_F) (WX : wz_G) (th kn bk : Int32) (sz : Nat) (fd : Int32) (ln : Nat) (fm : Int32) (fw : Int64) (to fo sb gb st sp : Nat → Int32) (wy : Nat → Int64) (se ms ts r1 r2 : Nat → Int32), cx q ax n k sg tu od sa gl F WX → cz_h n k sg tu od sa gl F kn bk sz fd ln fw to fo sb gb st sp wy se ms ts → ∀ (H : Heap) (locs : List Loc) (ls : Array Slot), va_P D vwCl ([WX.flatten, zo_W q az th n k kn bk sz fd ln fm fw, zt_W q az to fo, zs_W q az sb gb, zb_W q az st sp wy se, zf_W q az ms ts, zq_W q az r1 r2] : wz_G).flatten H → va_D (fun k9 : Nat => s.heap.size ≤ k9) ([WX.flatten, zo_W q az th n k kn bk sz fd ln fm fw, zt_W q az to fo, zs_W q az sb gb, zb_W q az st sp wy se, zf_W q az ms ts, zq_W q az r1 r2] : wz_G).flatten → va_S (fun k9 : Nat => s.heap.size ≤ k9) s.heap H locs → lv_has ls 4 [(0, .ref bs), (1, .ref ax), (2, .ref (az 0)), (3, .int (nI i))] → W p l e room_1 s m #[Value.ref bs] below meth c H locs 600000 7302250 (lw_Z below #[Value.ref bs] s) (F0 m 454 ls [])) : ∀ (k : Nat) (sg tu : Nat → Nat → Nat) (od : Nat → Nat) (sa gl : Nat) (F : cx_F) (WX : wz_G) (th kn bk : Int32) (sz : Nat) (fd : Int32) (ln : Nat) (fm : Int32) (fw : Int64) (to fo sb gb st sp : Nat → Int32) (wy : Nat → Int64) (se ms ts r1 r2 : Nat → Int32), cx q ax n k sg tu od sa gl F WX → cz_h n k sg tu od sa gl F kn bk sz fd ln fw to fo sb gb st sp wy se ms ts → ∀ (H : Heap) (locs : List Loc) (ls : Array Slot), va_P D vwCl ([WX.flatten, zo_W q az th n k kn bk sz fd ln fm fw, zt_W q az to fo, zs_W q az sb gb, zb_W q az st sp wy se, zf_W q az ms ts, zq_W q az r1 r2] : wz_G).flatten H → va_D (fun k9 : Nat => s.heap.size ≤ k9) ([WX.flatten, zo_W q az th n k kn bk sz fd ln fm fw, zt_W q az to fo, zs_W q az sb gb, zb_W q az st sp wy se, zf_W q az ms ts, zq_W q az r1 r2] : wz_G).flatten → va_S (fun k9 : Nat => s.heap.size ≤ k9) s.heap H locs → lv_has ls 4 [(0, .ref bs), (1, .ref ax), (2, .ref (az 0)), (3, .int (nI i))] → W p l e room_1 s m #[Value.ref bs] below meth c H locs 600000 7302250 (lw_Z below #[Value.ref bs] s) (F0 m 113 ls []) := by
  intro k sg tu od sa gl F WX th kn bk sz fd ln fm fw to fo sb gb st sp wy se ms ts r1 r2 hcx hcz H locs ls hP hD hS hl
  obtain ⟨⟨hn1, hn, hk⟩, hzm, hzs, hzg, hzl, hkn, hfd⟩ := hcz
  have hA : ∀ k9 : Nat, s.heap.size ≤ k9 → (fun k9 : Nat => s.heap.size ≤ k9) k9 := fun _ h => h
  have hbA : ¬ (fun k9 : Nat => s.heap.size ≤ k9) bs := Nat.not_le.mpr hbl
  refine lv_aload_n hx hb d_L_law_113 rfl (lv_at hl 1 rfl) ?_
  refine lv_aload_n hx hb d_L_law_114 rfl (lv_at hl 0 rfl) ?_
  refine lv_iload_n hx hb d_L_law_115 rfl (lv_at hl 3 rfl) ?_
  refine lv_iconst (v := nI 1) hx hb d_L_law_116 (by decide) ?_
  refine lv_iadd hx hb d_L_law_117 ?_
  refine wz_topi (y := nI (i + 1)) (nI_add i 1) ?_
  refine va_sld hx hb hX hbl hbA hS (vp_in_nI (n := (i + 1)) (N := L) (by omega) (by omega)) d_L_law_118 ?_
  refine wz_topi (y := xs (i + 1)) (congrArg xs (nI_clamp (by omega))) ?_
  refine lv_aload_n hx hb d_L_law_119 rfl (lv_at hl 0 rfl) ?_
  refine lv_iload_n hx hb d_L_law_120 rfl (lv_at hl 3 rfl) ?_
  refine lv_iconst (v := nI 2) hx hb d_L_law_121 (by decide) ?_
  refine lv_iadd hx hb d_L_law_122 ?_
  refine wz_topi (y := nI (i + 2)) (nI_add i 2) ?_
  refine va_sld hx hb hX hbl hbA hS (vp_in_nI (n := (i + 2)) (N := L) (by omega) (by omega)) d_L_law_123 ?_
  refine wz_topi (y := xs (i + 2)) (congrArg xs (nI_clamp (by omega))) ?_
  refine lv_aload_n hx hb d_L_law_124 rfl (lv_at hl 0 rfl) ?_
  refine lv_iload_n hx hb d_L_law_125 rfl (lv_at hl 3 rfl) ?_
  refine lv_iconst (v := nI 3) hx hb d_L_law_126 (by decide) ?_
  refine lv_iadd hx hb d_L_law_127 ?_
  refine wz_topi (y := nI (i + 3)) (nI_add i 3) ?_
  refine va_sld hx hb hX hbl hbA hS (vp_in_nI (n := (i + 3)) (N := L) (by omega) (by omega)) d_L_law_128 ?_
  refine wz_topi (y := xs (i + 3)) (congrArg xs (nI_clamp (by omega))) ?_
  obtain ⟨fs, hfs⟩ := cx_hd hcx
  have hQ := wz_split (n := 7) (gc := [WX.flatten]) (gr := [zo_W q az th n k kn bk sz fd ln fm fw, zt_W q az to fo, zs_W q az sb gb, zb_W q az st sp wy se, zf_W q az ms ts, zq_W q az r1 r2]) [0] [1, 2, 3, 4, 5, 6] rfl (by decide) rfl rfl hP hD
  refine wz_calli (va_runV (As := [.int (xs (i + 1)), .int (xs (i + 2)), .int (xs (i + 3))]) (rest := []) ⟨hx, hb, hml, hown, hts⟩ (wz_flat_Mi (c_X_cycle l D q ax n k sg tu od sa gl F (xs (i + 1)) (xs (i + 2)) (xs (i + 3)) WX hcx) _) (cwV 3 hts (wz_goodV kw_246 kw_247 kw_248 kw_30 kw_249) rfl rfl rfl (by decide +kernel) ⟨Nat.le_of_ble_eq_true rfl, Nat.le_of_ble_eq_true rfl⟩) (wz_preV (gi := 0) (k := 0) hN hK hQ wz_L_ok rfl hfs rfl) rfl rfl hl.1 rfl (lv_room (Nat.le_of_ble_eq_true rfl)) d_L_law_129 ⟨Nat.le_of_ble_eq_true rfl, Nat.le_of_ble_eq_true rfl⟩) hQ hS hA (fun v_129 gx H locs hp hP hD hS => ?_)
  obtain ⟨WY, rfl, hpx⟩ := hp
  obtain ⟨hP, hD⟩ := wz_ord (n := 7) (gs' := [WY.flatten, zo_W q az th n k kn bk sz fd ln fm fw, zt_W q az to fo, zs_W q az sb gb, zb_W q az st sp wy se, zf_W q az ms ts, zq_W q az r1 r2]) [0, 1, 2, 3, 4, 5, 6] rfl (by decide) rfl hP hD
  refine lv_aload_n hx hb d_L_law_132 rfl (lv_at hl 2 rfl) ?_
  refine lv_aload_n hx hb d_L_law_133 rfl (lv_at hl 0 rfl) ?_
  refine lv_iload_n hx hb d_L_law_134 rfl (lv_at hl 3 rfl) ?_
  refine lv_iconst (v := nI 1) hx hb d_L_law_135 (by decide) ?_
  refine lv_iadd hx hb d_L_law_136 ?_
  refine wz_topi (y := nI (i + 1)) (nI_add i 1) ?_
  refine va_sld hx hb hX hbl hbA hS (vp_in_nI (n := (i + 1)) (N := L) (by omega) (by omega)) d_L_law_137 ?_
  refine wz_topi (y := xs (i + 1)) (congrArg xs (nI_clamp (by omega))) ?_
  refine lv_aload_n hx hb d_L_law_138 rfl (lv_at hl 0 rfl) ?_
  refine lv_iload_n hx hb d_L_law_139 rfl (lv_at hl 3 rfl) ?_
  refine lv_iconst (v := nI 2) hx hb d_L_law_140 (by decide) ?_
  refine lv_iadd hx hb d_L_law_141 ?_
  refine wz_topi (y := nI (i + 2)) (nI_add i 2) ?_
  refine va_sld hx hb hX hbl hbA hS (vp_in_nI (n := (i + 2)) (N := L) (by omega) (by omega)) d_L_law_142 ?_
  refine wz_topi (y := xs (i + 2)) (congrArg xs (nI_clamp (by omega))) ?_
  refine lv_aload_n hx hb d_L_law_143 rfl (lv_at hl 0 rfl) ?_
  refine lv_iload_n hx hb d_L_law_144 rfl (lv_at hl 3 rfl) ?_
  refine lv_iconst (v := nI 3) hx hb d_L_law_145 (by decide) ?_
  refine lv_iadd hx hb d_L_law_146 ?_
  refine wz_topi (y := nI (i + 3)) (nI_add i 3) ?_
  refine va_sld hx hb hX hbl hbA hS (vp_in_nI (n := (i + 3)) (N := L) (by omega) (by omega)) d_L_law_147 ?_
  refine wz_topi (y := xs (i + 3)) (congrArg xs (nI_clamp (by omega))) ?_
  have hQ := wz_split (n := 7) (gc := [zo_W q az th n k kn bk sz fd ln fm fw, zt_W q az to fo]) (gr := [WY.flatten, zs_W q az sb gb, zb_W q az st sp wy se, zf_W q az ms ts, zq_W q az r1 r2]) [1, 2] [0, 3, 4, 5, 6] rfl (by decide) rfl rfl hP hD
  refine wz_calli (va_runV (As := [.int (xs (i + 1)), .int (xs (i + 2)), .int (xs (i + 3))]) (rest := [.int v_129]) ⟨hx, hb, hml, hown, hts⟩ (c_Z_cycle l D q az th n k kn bk sz fd ln fm fw to fo (xs (i + 1)) (xs (i + 2)) (xs (i + 3)) sg tu od hn hk hzm _) (cwV 3 hts (wz_goodV kw_535 kw_536 kw_537 kw_37 kw_538) rfl rfl rfl (by decide +kernel) ⟨Nat.le_of_ble_eq_true rfl, Nat.le_of_ble_eq_true rfl⟩) (wz_preV (gi := 0) (k := 0) hN hK hQ wz_L_ok rfl rfl rfl) rfl rfl hl.1 rfl (lv_room (Nat.le_of_ble_eq_true rfl)) d_L_law_148 ⟨Nat.le_of_ble_eq_true rfl, Nat.le_of_ble_eq_true rfl⟩) hQ hS hA (fun v_148 gx H locs hpz hP hD hS => ?_)
  rcases hpx with ⟨hvx, hcx', hno⟩ | ⟨hvx, mo, fr, t, o', hcan, hod, hcx'⟩
  · skip
    obtain ⟨hvz, rfl, _⟩ := hpz.resolve_right (fun ⟨_, mo, fr, t, o', _, _, hcan, _⟩ => hno ⟨mo, fr, t, hcan⟩)
    subst hvx
    subst hvz
    obtain ⟨hP, hD⟩ := wz_ord (n := 7) (gs' := [WY.flatten, zo_W q az (nI 0) n k kn bk sz fd ln fm fw, zt_W q az to fo, zs_W q az sb gb, zb_W q az st sp wy se, zf_W q az ms ts, zq_W q az r1 r2]) [2, 0, 1, 3, 4, 5, 6] rfl (by decide) rfl hP hD
    refine lv_icmp_eq (tgt := 454) hx hb d_L_law_151 (by decide) (fun hc => ?_) (fun hc => ?_)
    · skip
      exact hk9 k sg tu od sa gl F WY (nI 0) kn bk sz fd ln fm fw to fo sb gb st sp wy se ms ts r1 r2 hcx' ⟨⟨hn1, hn, hk⟩, hzm, hzs, hzg, hzl, hkn, hfd⟩ _ _ _ hP hD hS (lv_sub hl [0, 1, 2, 3] rfl)
    · skip
      exact absurd rfl hc
  · skip
    obtain ⟨hvz, mo2, fr2, t2, o2, to', fo', hcan2, hod2, rfl, hzm2⟩ := hpz.resolve_left (fun ⟨_, _, hno⟩ => hno ⟨mo, fr, t, hcan⟩)
    obtain ⟨rfl, rfl, rfl⟩ := mv_can_eq hn hk hcan hcan2
    obtain rfl := pz_od_eq hod hod2
    subst hvx
    subst hvz
    obtain ⟨hP, hD⟩ := wz_ord (n := 7) (gs' := [WY.flatten, zo_W q az (nI 0) n k (-1) bk sz (nI 0) ln fm fw, zt_W q az to' fo', zs_W q az sb gb, zb_W q az st sp wy se, zf_W q az ms ts, zq_W q az r1 r2]) [2, 0, 1, 3, 4, 5, 6] rfl (by decide) rfl hP hD
    refine lv_icmp_eq (tgt := 454) hx hb d_L_law_151 (by decide) (fun hc => ?_) (fun hc => ?_)
    · skip
      exact hk9 k (pz_up sg mo (pz_cyc (sg mo) fr t)) (pz_up tu mo (pz_cyi (sg mo) (tu mo) fr t)) (pz_up od mo o') sa gl none WY (nI 0) (-1) bk sz (nI 0) ln fm fw to' fo' sb gb st sp wy se ms ts r1 r2 hcx' ⟨⟨hn1, hn, hk⟩, hzm2, hzs, hzg, hzl, (fun mu hm h => (cz_new h hm).elim), rfl⟩ _ _ _ hP hD hS (lv_sub hl [0, 1, 2, 3] rfl)
    · skip
      exact absurd rfl hc
set_option maxHeartbeats 4000000 in
set_option maxRecDepth 100000 in
/-- the law, call 3 -/
theorem lw_case_3 {p : Program} {l : Launch} {e : Env} {s : State} {m : MethodId} {below : List Frame} {meth : Method} {c : Code} {D : va_G} {q : wz_Q} {bs L : Nat} {xs : Nat → Int32} (hx : p.tables.exec = Jvm.exec) (hb : c.code = code) (hml : c.maxLocals = 4) (hown : s.vm.findClass "TwoEndSearchLaw" = some m.cls) (hts : ∀ w ∈ bigW, w.before #[Value.ref bs] s = true) (hN : wz_N wz_L s) (hK : va_K D vwCl (wz_ty q) s) (hX : va_X bs L xs s s.heap) (hbl : bs < s.heap.size) (hL : L ≤ 2049) {ax n i : Nat} {az : Nat → Nat} (hi : i + 4 ≤ L) (hk9 : ∀ (k : Nat) (sg tu : Nat → Nat → Nat) (od : Nat → Nat) (sa gl : Nat) (F : cx_F) (WX : wz_G) (th kn bk : Int32) (sz : Nat) (fd : Int32) (ln : Nat) (fm : Int32) (fw : Int64) (to fo sb gb st sp : Nat → Int32) (wy : Nat → Int64) (se ms ts r1 r2 : Nat → Int32), cx q ax n k sg tu od sa gl F WX → cz_h n k sg tu od sa gl F kn bk sz fd ln fw to fo sb gb st sp wy se ms ts → ∀ (H : Heap) (locs : List Loc) (ls : Array Slot), va_P D vwCl ([WX.flatten, zo_W q az th n k kn bk sz fd ln fm fw, zt_W q az to fo, zs_W q az sb gb, zb_W q az st sp wy se, zf_W q az ms ts, zq_W q az r1 r2] : wz_G).flatten H → va_D (fun k9 : Nat => s.heap.size ≤ k9) ([WX.flatten, zo_W q az th n k kn bk sz fd ln fm fw, zt_W q az to fo, zs_W q az sb gb, zb_W q az st sp wy se, zf_W q az ms ts, zq_W q az r1 r2] : wz_G).flatten → va_S (fun k9 : Nat => s.heap.size ≤ k9) s.heap H locs → lv_has ls 4 [(0, .ref bs), (1, .ref ax), (2, .ref (az 0)), (3, .int (nI i))] → W p l e room_1 s m #[Value.ref bs] below meth c H locs 600000 7302250 (lw_Z below #[Value.ref bs] s) (F0 m 454 ls [])) : ∀ (k : Nat) (sg tu : Nat → Nat → Nat) (od : Nat → Nat) (sa gl : Nat) (F : cx_F) (WX : wz_G) (th kn bk : Int32) (sz : Nat) (fd : Int32) (ln : Nat) (fm : Int32) (fw : Int64) (to fo sb gb st sp : Nat → Int32) (wy : Nat → Int64) (se ms ts r1 r2 : Nat → Int32), cx q ax n k sg tu od sa gl F WX → cz_h n k sg tu od sa gl F kn bk sz fd ln fw to fo sb gb st sp wy se ms ts → ∀ (H : Heap) (locs : List Loc) (ls : Array Slot), va_P D vwCl ([WX.flatten, zo_W q az th n k kn bk sz fd ln fm fw, zt_W q az to fo, zs_W q az sb gb, zb_W q az st sp wy se, zf_W q az ms ts, zq_W q az r1 r2] : wz_G).flatten H → va_D (fun k9 : Nat => s.heap.size ≤ k9) ([WX.flatten, zo_W q az th n k kn bk sz fd ln fm fw, zt_W q az to fo, zs_W q az sb gb, zb_W q az st sp wy se, zf_W q az ms ts, zq_W q az r1 r2] : wz_G).flatten → va_S (fun k9 : Nat => s.heap.size ≤ k9) s.heap H locs → lv_has ls 4 [(0, .ref bs), (1, .ref ax), (2, .ref (az 0)), (3, .int (nI i))] → W p l e room_1 s m #[Value.ref bs] below meth c H locs 600000 7302250 (lw_Z below #[Value.ref bs] s) (F0 m 179 ls []) := by
  intro k sg tu od sa gl F WX th kn bk sz fd ln fm fw to fo sb gb st sp wy se ms ts r1 r2 hcx hcz H locs ls hP hD hS hl
  obtain ⟨⟨hn1, hn, hk⟩, hzm, hzs, hzg, hzl, hkn, hfd⟩ := hcz
  have hA : ∀ k9 : Nat, s.heap.size ≤ k9 → (fun k9 : Nat => s.heap.size ≤ k9) k9 := fun _ h => h
  have hbA : ¬ (fun k9 : Nat => s.heap.size ≤ k9) bs := Nat.not_le.mpr hbl
  refine lv_aload_n hx hb d_L_law_179 rfl (lv_at hl 1 rfl) ?_
  refine lv_aload_n hx hb d_L_law_180 rfl (lv_at hl 0 rfl) ?_
  refine lv_iload_n hx hb d_L_law_181 rfl (lv_at hl 3 rfl) ?_
  refine lv_iconst (v := nI 1) hx hb d_L_law_182 (by decide) ?_
  refine lv_iadd hx hb d_L_law_183 ?_
  refine wz_topi (y := nI (i + 1)) (nI_add i 1) ?_
  refine va_sld hx hb hX hbl hbA hS (vp_in_nI (n := (i + 1)) (N := L) (by omega) (by omega)) d_L_law_184 ?_
  refine wz_topi (y := xs (i + 1)) (congrArg xs (nI_clamp (by omega))) ?_
  refine lv_if_eq (tgt := 192) hx hb d_L_law_185 (by decide) (fun hb1 => ?_) (fun hb1 => ?_)
  · skip
    refine lv_iconst (v := nI 0) hx hb d_L_law_192 (by decide) ?_
    refine lv_aload_n hx hb d_L_law_193 rfl (lv_at hl 0 rfl) ?_
    refine lv_iload_n hx hb d_L_law_194 rfl (lv_at hl 3 rfl) ?_
    refine lv_iconst (v := nI 2) hx hb d_L_law_195 (by decide) ?_
    refine lv_iadd hx hb d_L_law_196 ?_
    refine wz_topi (y := nI (i + 2)) (nI_add i 2) ?_
    refine va_sld hx hb hX hbl hbA hS (vp_in_nI (n := (i + 2)) (N := L) (by omega) (by omega)) d_L_law_197 ?_
    refine wz_topi (y := xs (i + 2)) (congrArg xs (nI_clamp (by omega))) ?_
    refine lv_aload_n hx hb d_L_law_198 rfl (lv_at hl 0 rfl) ?_
    refine lv_iload_n hx hb d_L_law_199 rfl (lv_at hl 3 rfl) ?_
    refine lv_iconst (v := nI 3) hx hb d_L_law_200 (by decide) ?_
    refine lv_iadd hx hb d_L_law_201 ?_
    refine wz_topi (y := nI (i + 3)) (nI_add i 3) ?_
    refine va_sld hx hb hX hbl hbA hS (vp_in_nI (n := (i + 3)) (N := L) (by omega) (by omega)) d_L_law_202 ?_
    refine wz_topi (y := xs (i + 3)) (congrArg xs (nI_clamp (by omega))) ?_
    obtain ⟨fs, hfs⟩ := cx_hd hcx
    have hQ := wz_split (n := 7) (gc := [WX.flatten]) (gr := [zo_W q az th n k kn bk sz fd ln fm fw, zt_W q az to fo, zs_W q az sb gb, zb_W q az st sp wy se, zf_W q az ms ts, zq_W q az r1 r2]) [0] [1, 2, 3, 4, 5, 6] rfl (by decide) rfl rfl hP hD
    refine wz_calli (va_runV (As := [.int (nI 0), .int (xs (i + 2)), .int (xs (i + 3))]) (rest := []) ⟨hx, hb, hml, hown, hts⟩ (wz_flat_Mi (c_X_label l D q ax n k sg tu od sa gl F (nI 0) (xs (i + 2)) (xs (i + 3)) WX hcx) _) (cwV 3 hts (wz_goodV kw_280 kw_281 kw_282 kw_30 kw_283) rfl rfl rfl (by decide +kernel) ⟨Nat.le_of_ble_eq_true rfl, Nat.le_of_ble_eq_true rfl⟩) (wz_preV (gi := 0) (k := 0) hN hK hQ wz_L_ok rfl hfs rfl) rfl rfl hl.1 rfl (lv_room (Nat.le_of_ble_eq_true rfl)) d_L_law_203 ⟨Nat.le_of_ble_eq_true rfl, Nat.le_of_ble_eq_true rfl⟩) hQ hS hA (fun v_203 gx H locs hp hP hD hS => ?_)
    obtain ⟨WY, rfl, hpx⟩ := hp
    obtain ⟨hP, hD⟩ := wz_ord (n := 7) (gs' := [WY.flatten, zo_W q az th n k kn bk sz fd ln fm fw, zt_W q az to fo, zs_W q az sb gb, zb_W q az st sp wy se, zf_W q az ms ts, zq_W q az r1 r2]) [0, 1, 2, 3, 4, 5, 6] rfl (by decide) rfl hP hD
    refine lv_aload_n hx hb d_L_law_206 rfl (lv_at hl 2 rfl) ?_
    refine lv_aload_n hx hb d_L_law_207 rfl (lv_at hl 0 rfl) ?_
    refine lv_iload_n hx hb d_L_law_208 rfl (lv_at hl 3 rfl) ?_
    refine lv_iconst (v := nI 1) hx hb d_L_law_209 (by decide) ?_
    refine lv_iadd hx hb d_L_law_210 ?_
    refine wz_topi (y := nI (i + 1)) (nI_add i 1) ?_
    refine va_sld hx hb hX hbl hbA hS (vp_in_nI (n := (i + 1)) (N := L) (by omega) (by omega)) d_L_law_211 ?_
    refine wz_topi (y := xs (i + 1)) (congrArg xs (nI_clamp (by omega))) ?_
    refine lv_if_eq (tgt := 219) hx hb d_L_law_212 (by decide) (fun hb2 => ?_) (fun hb2 => ?_)
    · skip
      refine lv_iconst (v := nI 0) hx hb d_L_law_219 (by decide) ?_
      refine lv_aload_n hx hb d_L_law_220 rfl (lv_at hl 0 rfl) ?_
      refine lv_iload_n hx hb d_L_law_221 rfl (lv_at hl 3 rfl) ?_
      refine lv_iconst (v := nI 2) hx hb d_L_law_222 (by decide) ?_
      refine lv_iadd hx hb d_L_law_223 ?_
      refine wz_topi (y := nI (i + 2)) (nI_add i 2) ?_
      refine va_sld hx hb hX hbl hbA hS (vp_in_nI (n := (i + 2)) (N := L) (by omega) (by omega)) d_L_law_224 ?_
      refine wz_topi (y := xs (i + 2)) (congrArg xs (nI_clamp (by omega))) ?_
      refine lv_aload_n hx hb d_L_law_225 rfl (lv_at hl 0 rfl) ?_
      refine lv_iload_n hx hb d_L_law_226 rfl (lv_at hl 3 rfl) ?_
      refine lv_iconst (v := nI 3) hx hb d_L_law_227 (by decide) ?_
      refine lv_iadd hx hb d_L_law_228 ?_
      refine wz_topi (y := nI (i + 3)) (nI_add i 3) ?_
      refine va_sld hx hb hX hbl hbA hS (vp_in_nI (n := (i + 3)) (N := L) (by omega) (by omega)) d_L_law_229 ?_
      refine wz_topi (y := xs (i + 3)) (congrArg xs (nI_clamp (by omega))) ?_
      have hQ := wz_split (n := 7) (gc := [zo_W q az th n k kn bk sz fd ln fm fw, zs_W q az sb gb]) (gr := [WY.flatten, zt_W q az to fo, zb_W q az st sp wy se, zf_W q az ms ts, zq_W q az r1 r2]) [1, 3] [0, 2, 4, 5, 6] rfl (by decide) rfl rfl hP hD
      refine wz_calli (va_runV (As := [.int (nI 0), .int (xs (i + 2)), .int (xs (i + 3))]) (rest := [.int v_203]) ⟨hx, hb, hml, hown, hts⟩ (c_Z_label l D q az th n k kn bk sz fd ln fm fw sb gb (nI 0) (xs (i + 2)) (xs (i + 3)) hn _) (cwV 3 hts (wz_goodV kw_555 kw_556 kw_557 kw_37 kw_558) rfl rfl rfl (by decide +kernel) ⟨Nat.le_of_ble_eq_true rfl, Nat.le_of_ble_eq_true rfl⟩) (wz_preV (gi := 0) (k := 0) hN hK hQ wz_L_ok rfl rfl rfl) rfl rfl hl.1 rfl (lv_room (Nat.le_of_ble_eq_true rfl)) d_L_law_230 ⟨Nat.le_of_ble_eq_true rfl, Nat.le_of_ble_eq_true rfl⟩) hQ hS hA (fun v_230 gx H locs hpz hP hD hS => ?_)
      rcases hpx with ⟨hvx, hcx', hno⟩ | ⟨hvx, p1, j1, hp1, hj1, hx1, hy1, hcx'⟩
      · skip
        obtain ⟨hvz, rfl, _⟩ := hpz.resolve_right (fun ⟨_, p1, j1, h1, h2, h3, h4, _⟩ => hno ⟨p1, j1, h1, h2, h3, h4⟩)
        subst hvx
        subst hvz
        obtain ⟨hP, hD⟩ := wz_ord (n := 7) (gs' := [WY.flatten, zo_W q az (nI 0) n k kn bk sz fd ln fm fw, zt_W q az to fo, zs_W q az sb gb, zb_W q az st sp wy se, zf_W q az ms ts, zq_W q az r1 r2]) [2, 0, 3, 1, 4, 5, 6] rfl (by decide) rfl hP hD
        refine lv_icmp_eq (tgt := 454) hx hb d_L_law_233 (by decide) (fun hc => ?_) (fun hc => ?_)
        · skip
          exact hk9 k sg tu od sa gl F WY (nI 0) kn bk sz fd ln fm fw to fo sb gb st sp wy se ms ts r1 r2 hcx' ⟨⟨hn1, hn, hk⟩, hzm, hzs, hzg, hzl, hkn, hfd⟩ _ _ _ hP hD hS (lv_sub hl [0, 1, 2, 3] rfl)
        · skip
          exact absurd rfl hc
      · skip
        obtain ⟨hvz, p2, j2, hp2, hj2, hx2, hy2, rfl⟩ := hpz.resolve_left (fun ⟨_, _, hno⟩ => hno ⟨p1, j1, hp1, hj1, hx1, hy1⟩)
        obtain rfl : p1 = p2 := (nI_eq (by omega) (by omega)).mp (hx1.symm.trans hx2)
        obtain rfl : j1 = j2 := (nI_eq (by omega) (by omega)).mp (hy1.symm.trans hy2)
        subst hvx
        subst hvz
        obtain ⟨hP, hD⟩ := wz_ord (n := 7) (gs' := [WY.flatten, zo_W q az (nI 0) n k (-1) bk sz (nI 0) ln fm fw, zt_W q az to fo, zs_W q az (if nI 0 = 0 then upd sb p1 (nI j1) else sb) (if nI 0 = 0 then gb else upd gb p1 (nI j1)), zb_W q az st sp wy se, zf_W q az ms ts, zq_W q az r1 r2]) [2, 0, 3, 1, 4, 5, 6] rfl (by decide) rfl hP hD
        refine lv_icmp_eq (tgt := 454) hx hb d_L_law_233 (by decide) (fun hc => ?_) (fun hc => ?_)
        · skip
          exact hk9 k sg tu od (if nI 0 = 0 then pz_lab sa p1 j1 else sa) (if nI 0 = 0 then gl else pz_lab gl p1 j1) none WY (nI 0) (-1) bk sz (nI 0) ln fm fw to fo (if nI 0 = 0 then upd sb p1 (nI j1) else sb) (if nI 0 = 0 then gb else upd gb p1 (nI j1)) st sp wy se ms ts r1 r2 hcx' ⟨⟨hn1, hn, hk⟩, hzm, zs_lab_if hzs hp1 hj1, zs_lab_if2 hzg hp1 hj1, hzl, (fun mu hm h => (cz_new h hm).elim), rfl⟩ _ _ _ hP hD hS (lv_sub hl [0, 1, 2, 3] rfl)
        · skip
          exact absurd rfl hc
    · skip
      exact absurd hb1 hb2
  · skip
    refine lv_iconst (v := nI 1) hx hb d_L_law_188 (by decide) ?_
    refine lv_goto (tgt := 193) hx hb d_L_law_189 (by decide) ?_
    refine lv_aload_n hx hb d_L_law_193 rfl (lv_at hl 0 rfl) ?_
    refine lv_iload_n hx hb d_L_law_194 rfl (lv_at hl 3 rfl) ?_
    refine lv_iconst (v := nI 2) hx hb d_L_law_195 (by decide) ?_
    refine lv_iadd hx hb d_L_law_196 ?_
    refine wz_topi (y := nI (i + 2)) (nI_add i 2) ?_
    refine va_sld hx hb hX hbl hbA hS (vp_in_nI (n := (i + 2)) (N := L) (by omega) (by omega)) d_L_law_197 ?_
    refine wz_topi (y := xs (i + 2)) (congrArg xs (nI_clamp (by omega))) ?_
    refine lv_aload_n hx hb d_L_law_198 rfl (lv_at hl 0 rfl) ?_
    refine lv_iload_n hx hb d_L_law_199 rfl (lv_at hl 3 rfl) ?_
    refine lv_iconst (v := nI 3) hx hb d_L_law_200 (by decide) ?_
    refine lv_iadd hx hb d_L_law_201 ?_
    refine wz_topi (y := nI (i + 3)) (nI_add i 3) ?_
    refine va_sld hx hb hX hbl hbA hS (vp_in_nI (n := (i + 3)) (N := L) (by omega) (by omega)) d_L_law_202 ?_
    refine wz_topi (y := xs (i + 3)) (congrArg xs (nI_clamp (by omega))) ?_
    obtain ⟨fs, hfs⟩ := cx_hd hcx
    have hQ := wz_split (n := 7) (gc := [WX.flatten]) (gr := [zo_W q az th n k kn bk sz fd ln fm fw, zt_W q az to fo, zs_W q az sb gb, zb_W q az st sp wy se, zf_W q az ms ts, zq_W q az r1 r2]) [0] [1, 2, 3, 4, 5, 6] rfl (by decide) rfl rfl hP hD
    refine wz_calli (va_runV (As := [.int (nI 1), .int (xs (i + 2)), .int (xs (i + 3))]) (rest := []) ⟨hx, hb, hml, hown, hts⟩ (wz_flat_Mi (c_X_label l D q ax n k sg tu od sa gl F (nI 1) (xs (i + 2)) (xs (i + 3)) WX hcx) _) (cwV 3 hts (wz_goodV kw_280 kw_281 kw_282 kw_30 kw_283) rfl rfl rfl (by decide +kernel) ⟨Nat.le_of_ble_eq_true rfl, Nat.le_of_ble_eq_true rfl⟩) (wz_preV (gi := 0) (k := 0) hN hK hQ wz_L_ok rfl hfs rfl) rfl rfl hl.1 rfl (lv_room (Nat.le_of_ble_eq_true rfl)) d_L_law_203 ⟨Nat.le_of_ble_eq_true rfl, Nat.le_of_ble_eq_true rfl⟩) hQ hS hA (fun v_203 gx H locs hp hP hD hS => ?_)
    obtain ⟨WY, rfl, hpx⟩ := hp
    obtain ⟨hP, hD⟩ := wz_ord (n := 7) (gs' := [WY.flatten, zo_W q az th n k kn bk sz fd ln fm fw, zt_W q az to fo, zs_W q az sb gb, zb_W q az st sp wy se, zf_W q az ms ts, zq_W q az r1 r2]) [0, 1, 2, 3, 4, 5, 6] rfl (by decide) rfl hP hD
    refine lv_aload_n hx hb d_L_law_206 rfl (lv_at hl 2 rfl) ?_
    refine lv_aload_n hx hb d_L_law_207 rfl (lv_at hl 0 rfl) ?_
    refine lv_iload_n hx hb d_L_law_208 rfl (lv_at hl 3 rfl) ?_
    refine lv_iconst (v := nI 1) hx hb d_L_law_209 (by decide) ?_
    refine lv_iadd hx hb d_L_law_210 ?_
    refine wz_topi (y := nI (i + 1)) (nI_add i 1) ?_
    refine va_sld hx hb hX hbl hbA hS (vp_in_nI (n := (i + 1)) (N := L) (by omega) (by omega)) d_L_law_211 ?_
    refine wz_topi (y := xs (i + 1)) (congrArg xs (nI_clamp (by omega))) ?_
    refine lv_if_eq (tgt := 219) hx hb d_L_law_212 (by decide) (fun hb2 => ?_) (fun hb2 => ?_)
    · skip
      exact absurd hb2 hb1
    · skip
      refine lv_iconst (v := nI 1) hx hb d_L_law_215 (by decide) ?_
      refine lv_goto (tgt := 220) hx hb d_L_law_216 (by decide) ?_
      refine lv_aload_n hx hb d_L_law_220 rfl (lv_at hl 0 rfl) ?_
      refine lv_iload_n hx hb d_L_law_221 rfl (lv_at hl 3 rfl) ?_
      refine lv_iconst (v := nI 2) hx hb d_L_law_222 (by decide) ?_
      refine lv_iadd hx hb d_L_law_223 ?_
      refine wz_topi (y := nI (i + 2)) (nI_add i 2) ?_
      refine va_sld hx hb hX hbl hbA hS (vp_in_nI (n := (i + 2)) (N := L) (by omega) (by omega)) d_L_law_224 ?_
      refine wz_topi (y := xs (i + 2)) (congrArg xs (nI_clamp (by omega))) ?_
      refine lv_aload_n hx hb d_L_law_225 rfl (lv_at hl 0 rfl) ?_
      refine lv_iload_n hx hb d_L_law_226 rfl (lv_at hl 3 rfl) ?_
      refine lv_iconst (v := nI 3) hx hb d_L_law_227 (by decide) ?_
      refine lv_iadd hx hb d_L_law_228 ?_
      refine wz_topi (y := nI (i + 3)) (nI_add i 3) ?_
      refine va_sld hx hb hX hbl hbA hS (vp_in_nI (n := (i + 3)) (N := L) (by omega) (by omega)) d_L_law_229 ?_
      refine wz_topi (y := xs (i + 3)) (congrArg xs (nI_clamp (by omega))) ?_
      have hQ := wz_split (n := 7) (gc := [zo_W q az th n k kn bk sz fd ln fm fw, zs_W q az sb gb]) (gr := [WY.flatten, zt_W q az to fo, zb_W q az st sp wy se, zf_W q az ms ts, zq_W q az r1 r2]) [1, 3] [0, 2, 4, 5, 6] rfl (by decide) rfl rfl hP hD
      refine wz_calli (va_runV (As := [.int (nI 1), .int (xs (i + 2)), .int (xs (i + 3))]) (rest := [.int v_203]) ⟨hx, hb, hml, hown, hts⟩ (c_Z_label l D q az th n k kn bk sz fd ln fm fw sb gb (nI 1) (xs (i + 2)) (xs (i + 3)) hn _) (cwV 3 hts (wz_goodV kw_555 kw_556 kw_557 kw_37 kw_558) rfl rfl rfl (by decide +kernel) ⟨Nat.le_of_ble_eq_true rfl, Nat.le_of_ble_eq_true rfl⟩) (wz_preV (gi := 0) (k := 0) hN hK hQ wz_L_ok rfl rfl rfl) rfl rfl hl.1 rfl (lv_room (Nat.le_of_ble_eq_true rfl)) d_L_law_230 ⟨Nat.le_of_ble_eq_true rfl, Nat.le_of_ble_eq_true rfl⟩) hQ hS hA (fun v_230 gx H locs hpz hP hD hS => ?_)
      rcases hpx with ⟨hvx, hcx', hno⟩ | ⟨hvx, p1, j1, hp1, hj1, hx1, hy1, hcx'⟩
      · skip
        obtain ⟨hvz, rfl, _⟩ := hpz.resolve_right (fun ⟨_, p1, j1, h1, h2, h3, h4, _⟩ => hno ⟨p1, j1, h1, h2, h3, h4⟩)
        subst hvx
        subst hvz
        obtain ⟨hP, hD⟩ := wz_ord (n := 7) (gs' := [WY.flatten, zo_W q az (nI 0) n k kn bk sz fd ln fm fw, zt_W q az to fo, zs_W q az sb gb, zb_W q az st sp wy se, zf_W q az ms ts, zq_W q az r1 r2]) [2, 0, 3, 1, 4, 5, 6] rfl (by decide) rfl hP hD
        refine lv_icmp_eq (tgt := 454) hx hb d_L_law_233 (by decide) (fun hc => ?_) (fun hc => ?_)
        · skip
          exact hk9 k sg tu od sa gl F WY (nI 0) kn bk sz fd ln fm fw to fo sb gb st sp wy se ms ts r1 r2 hcx' ⟨⟨hn1, hn, hk⟩, hzm, hzs, hzg, hzl, hkn, hfd⟩ _ _ _ hP hD hS (lv_sub hl [0, 1, 2, 3] rfl)
        · skip
          exact absurd rfl hc
      · skip
        obtain ⟨hvz, p2, j2, hp2, hj2, hx2, hy2, rfl⟩ := hpz.resolve_left (fun ⟨_, _, hno⟩ => hno ⟨p1, j1, hp1, hj1, hx1, hy1⟩)
        obtain rfl : p1 = p2 := (nI_eq (by omega) (by omega)).mp (hx1.symm.trans hx2)
        obtain rfl : j1 = j2 := (nI_eq (by omega) (by omega)).mp (hy1.symm.trans hy2)
        subst hvx
        subst hvz
        obtain ⟨hP, hD⟩ := wz_ord (n := 7) (gs' := [WY.flatten, zo_W q az (nI 0) n k (-1) bk sz (nI 0) ln fm fw, zt_W q az to fo, zs_W q az (if nI 1 = 0 then upd sb p1 (nI j1) else sb) (if nI 1 = 0 then gb else upd gb p1 (nI j1)), zb_W q az st sp wy se, zf_W q az ms ts, zq_W q az r1 r2]) [2, 0, 3, 1, 4, 5, 6] rfl (by decide) rfl hP hD
        refine lv_icmp_eq (tgt := 454) hx hb d_L_law_233 (by decide) (fun hc => ?_) (fun hc => ?_)
        · skip
          exact hk9 k sg tu od (if nI 1 = 0 then pz_lab sa p1 j1 else sa) (if nI 1 = 0 then gl else pz_lab gl p1 j1) none WY (nI 0) (-1) bk sz (nI 0) ln fm fw to fo (if nI 1 = 0 then upd sb p1 (nI j1) else sb) (if nI 1 = 0 then gb else upd gb p1 (nI j1)) st sp wy se ms ts r1 r2 hcx' ⟨⟨hn1, hn, hk⟩, hzm, zs_lab_if hzs hp1 hj1, zs_lab_if2 hzg hp1 hj1, hzl, (fun mu hm h => (cz_new h hm).elim), rfl⟩ _ _ _ hP hD hS (lv_sub hl [0, 1, 2, 3] rfl)
        · skip
          exact absurd rfl hc
set_option maxHeartbeats 4000000 in
set_option maxRecDepth 100000 in
/-- the law, call 10 -/
theorem lw_case_10 {p : Program} {l : Launch} {e : Env} {s : State} {m : MethodId} {below : List Frame} {meth : Method} {c : Code} {D : va_G} {q : wz_Q} {bs L : Nat} {xs : Nat → Int32} (hx : p.tables.exec = Jvm.exec) (hb : c.code = code) (hml : c.maxLocals = 4) (hown : s.vm.findClass "TwoEndSearchLaw" = some m.cls) (hts : ∀ w ∈ bigW, w.before #[Value.ref bs] s = true) (hN : wz_N wz_L s) (hK : va_K D vwCl (wz_ty q) s) (hX : va_X bs L xs s s.heap) (hbl : bs < s.heap.size) (hL : L ≤ 2049) {ax n i : Nat} {az : Nat → Nat} (hi : i + 4 ≤ L) (hk9 : ∀ (k : Nat) (sg tu : Nat → Nat → Nat) (od : Nat → Nat) (sa gl : Nat) (F : cx_F) (WX : wz_G) (th kn bk : Int32) (sz : Nat) (fd : Int32) (ln : Nat) (fm : Int32) (fw : Int64) (to fo sb gb st sp : Nat → Int32) (wy : Nat → Int64) (se ms ts r1 r2 : Nat → Int32), cx q ax n k sg tu od sa gl F WX → cz_h n k sg tu od sa gl F kn bk sz fd ln fw to fo sb gb st sp wy se ms ts → ∀ (H : Heap) (locs : List Loc) (ls : Array Slot), va_P D vwCl ([WX.flatten, zo_W q az th n k kn bk sz fd ln fm fw, zt_W q az to fo, zs_W q az sb gb, zb_W q az st sp wy se, zf_W q az ms ts, zq_W q az r1 r2] : wz_G).flatten H → va_D (fun k9 : Nat => s.heap.size ≤ k9) ([WX.flatten, zo_W q az th n k kn bk sz fd ln fm fw, zt_W q az to fo, zs_W q az sb gb, zb_W q az st sp wy se, zf_W q az ms ts, zq_W q az r1 r2] : wz_G).flatten → va_S (fun k9 : Nat => s.heap.size ≤ k9) s.heap H locs → lv_has ls 4 [(0, .ref bs), (1, .ref ax), (2, .ref (az 0)), (3, .int (nI i))] → W p l e room_1 s m #[Value.ref bs] below meth c H locs 600000 7302250 (lw_Z below #[Value.ref bs] s) (F0 m 454 ls [])) : ∀ (k : Nat) (sg tu : Nat → Nat → Nat) (od : Nat → Nat) (sa gl : Nat) (F : cx_F) (WX : wz_G) (th kn bk : Int32) (sz : Nat) (fd : Int32) (ln : Nat) (fm : Int32) (fw : Int64) (to fo sb gb st sp : Nat → Int32) (wy : Nat → Int64) (se ms ts r1 r2 : Nat → Int32), cx q ax n k sg tu od sa gl F WX → cz_h n k sg tu od sa gl F kn bk sz fd ln fw to fo sb gb st sp wy se ms ts → ∀ (H : Heap) (locs : List Loc) (ls : Array Slot), va_P D vwCl ([WX.flatten, zo_W q az th n k kn bk sz fd ln fm fw, zt_W q az to fo, zs_W q az sb gb, zb_W q az st sp wy se, zf_W q az ms ts, zq_W q az r1 r2] : wz_G).flatten H → va_D (fun k9 : Nat => s.heap.size ≤ k9) ([WX.flatten, zo_W q az th n k kn bk sz fd ln fm fw, zt_W q az to fo, zs_W q az sb gb, zb_W q az st sp wy se, zf_W q az ms ts, zq_W q az r1 r2] : wz_G).flatten → va_S (fun k9 : Nat => s.heap.size ≤ k9) s.heap H locs → lv_has ls 4 [(0, .ref bs), (1, .ref ax), (2, .ref (az 0)), (3, .int (nI i))] → W p l e room_1 s m #[Value.ref bs] below meth c H locs 600000 7302250 (lw_Z below #[Value.ref bs] s) (F0 m 443 ls []) := by
  intro k sg tu od sa gl F WX th kn bk sz fd ln fm fw to fo sb gb st sp wy se ms ts r1 r2 hcx hcz H locs ls hP hD hS hl
  obtain ⟨⟨hn1, hn, hk⟩, hzm, hzs, hzg, hzl, hkn, hfd⟩ := hcz
  have hA : ∀ k9 : Nat, s.heap.size ≤ k9 → (fun k9 : Nat => s.heap.size ≤ k9) k9 := fun _ h => h
  have hbA : ¬ (fun k9 : Nat => s.heap.size ≤ k9) bs := Nat.not_le.mpr hbl
  refine lv_aload_n hx hb d_L_law_443 rfl (lv_at hl 1 rfl) ?_
  obtain ⟨fs, hfs⟩ := cx_hd hcx
  have hQ := wz_split (n := 7) (gc := [WX.flatten]) (gr := [zo_W q az th n k kn bk sz fd ln fm fw, zt_W q az to fo, zs_W q az sb gb, zb_W q az st sp wy se, zf_W q az ms ts, zq_W q az r1 r2]) [0] [1, 2, 3, 4, 5, 6] rfl (by decide) rfl rfl hP hD
  refine wz_callv (va_runV (As := []) (rest := []) ⟨hx, hb, hml, hown, hts⟩ (wz_flat_Mv (c_X_clear l D q ax n k sg tu od sa gl F WX hcx) _) (cwV 0 hts (wz_goodV kw_438 kw_439 kw_440 kw_30 kw_441) rfl rfl rfl (by decide +kernel) ⟨Nat.le_of_ble_eq_true rfl, Nat.le_of_ble_eq_true rfl⟩) (wz_preV (gi := 0) (k := 0) hN hK hQ wz_L_ok rfl hfs rfl) rfl rfl hl.1 rfl (lv_room (Nat.le_of_ble_eq_true rfl)) d_L_law_444 ⟨Nat.le_of_ble_eq_true rfl, Nat.le_of_ble_eq_true rfl⟩) hQ hS hA (fun gx H locs hp hP hD hS => ?_)
  obtain ⟨WY, rfl, hpx⟩ := hp
  obtain ⟨hP, hD⟩ := wz_ord (n := 7) (gs' := [WY.flatten, zo_W q az th n k kn bk sz fd ln fm fw, zt_W q az to fo, zs_W q az sb gb, zb_W q az st sp wy se, zf_W q az ms ts, zq_W q az r1 r2]) [0, 1, 2, 3, 4, 5, 6] rfl (by decide) rfl hP hD
  refine lv_aload_n hx hb d_L_law_447 rfl (lv_at hl 2 rfl) ?_
  have hQ := wz_split (n := 7) (gc := [zo_W q az th n k kn bk sz fd ln fm fw, zs_W q az sb gb]) (gr := [WY.flatten, zt_W q az to fo, zb_W q az st sp wy se, zf_W q az ms ts, zq_W q az r1 r2]) [1, 3] [0, 2, 4, 5, 6] rfl (by decide) rfl rfl hP hD
  refine wz_callv (va_runV (As := []) (rest := []) ⟨hx, hb, hml, hown, hts⟩ (c_Z_clear l D q az th n k kn bk sz fd ln fm fw sb gb _) (cwV 0 hts (wz_goodV kw_559 kw_560 kw_561 kw_37 kw_562) rfl rfl rfl (by decide +kernel) ⟨Nat.le_of_ble_eq_true rfl, Nat.le_of_ble_eq_true rfl⟩) (wz_preV (gi := 0) (k := 0) hN hK hQ wz_L_ok rfl rfl rfl) rfl rfl hl.1 rfl (lv_room (Nat.le_of_ble_eq_true rfl)) d_L_law_448 ⟨Nat.le_of_ble_eq_true rfl, Nat.le_of_ble_eq_true rfl⟩) hQ hS hA (fun gx H locs hpz hP hD hS => ?_)
  obtain ⟨s1, g1, rfl, h1⟩ := hpz
  obtain ⟨hP, hD⟩ := wz_ord (n := 7) (gs' := [WY.flatten, zo_W q az (nI 0) n 0 (-1) bk sz (nI 0) ln fm fw, zt_W q az to fo, zs_W q az s1 g1, zb_W q az st sp wy se, zf_W q az ms ts, zq_W q az r1 r2]) [2, 0, 3, 1, 4, 5, 6] rfl (by decide) rfl hP hD
  refine lv_goto (tgt := 454) hx hb d_L_law_451 (by decide) ?_
  exact hk9 0 sg tu od (pz_first n) (pz_first n) none WY (nI 0) (-1) bk sz (nI 0) ln fm fw to fo s1 g1 st sp wy se ms ts r1 r2 hpx ⟨⟨hn1, hn, by omega⟩, fun o ho => absurd ho (by omega), zs_first hn (fun p hp => (h1 p hp).1), zs_first hn (fun p hp => (h1 p hp).2), hzl, (fun mu hm h => (cz_new h hm).elim), rfl⟩ _ _ _ hP hD hS (lv_sub hl [0, 1, 2, 3] rfl)
