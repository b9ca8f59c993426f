theorem d_Z_run_0 : decode b_Z_run 0 = .ok (.aload_n 0, 1) := by decide +kernel
theorem d_Z_run_1 : decode b_Z_run 1 = .ok (.iconst 0, 1) := by decide +kernel
theorem d_Z_run_2 : decode b_Z_run 2 = .ok (.putfield 59, 3) := by decide +kernel
theorem d_Z_run_5 : decode b_Z_run 5 = .ok (.iload_n 1, 1) := by decide +kernel
theorem d_Z_run_6 : decode b_Z_run 6 = .ok (.invokestatic 111, 3) := by decide +kernel
theorem d_Z_run_9 : decode b_Z_run 9 = .ok (.ifCond .eq 7, 3) := by decide +kernel
theorem d_Z_run_12 : decode b_Z_run 12 = .ok (.iload_n 2, 1) := by decide +kernel
theorem d_Z_run_13 : decode b_Z_run 13 = .ok (.ifCond .ge 6, 3) := by decide +kernel
theorem d_Z_run_16 : decode b_Z_run 16 = .ok (.bipush (-2), 2) := by decide +kernel
theorem d_Z_run_18 : decode b_Z_run 18 = .ok (.ireturn, 1) := by decide +kernel
theorem d_Z_run_19 : decode b_Z_run 19 = .ok (.aload_n 0, 1) := by decide +kernel
theorem d_Z_run_20 : decode b_Z_run 20 = .ok (.iconst 0, 1) := by decide +kernel
theorem d_Z_run_21 : decode b_Z_run 21 = .ok (.putfield 68, 3) := by decide +kernel
theorem d_Z_run_24 : decode b_Z_run 24 = .ok (.aload_n 0, 1) := by decide +kernel
theorem d_Z_run_25 : decode b_Z_run 25 = .ok (.iload_n 1, 1) := by decide +kernel
theorem d_Z_run_26 : decode b_Z_run 26 = .ok (.iconst 1, 1) := by decide +kernel
theorem d_Z_run_27 : decode b_Z_run 27 = .ok (.invokevirtual 114, 3) := by decide +kernel
theorem d_Z_run_30 : decode b_Z_run 30 = .ok (.aload_n 0, 1) := by decide +kernel
theorem d_Z_run_31 : decode b_Z_run 31 = .ok (.aload_n 0, 1) := by decide +kernel
theorem d_Z_run_32 : decode b_Z_run 32 = .ok (.invokevirtual 97, 3) := by decide +kernel
theorem d_Z_run_35 : decode b_Z_run 35 = .ok (.invokevirtual 118, 3) := by decide +kernel
theorem d_Z_run_38 : decode b_Z_run 38 = .ok (.istore_n 3, 1) := by decide +kernel
theorem d_Z_run_39 : decode b_Z_run 39 = .ok (.iload_n 3, 1) := by decide +kernel
theorem d_Z_run_40 : decode b_Z_run 40 = .ok (.ifCond .lt 13, 3) := by decide +kernel
theorem d_Z_run_43 : decode b_Z_run 43 = .ok (.aload_n 0, 1) := by decide +kernel
theorem d_Z_run_44 : decode b_Z_run 44 = .ok (.getfield 30, 3) := by decide +kernel
theorem d_Z_run_47 : decode b_Z_run 47 = .ok (.iload_n 3, 1) := by decide +kernel
theorem d_Z_run_48 : decode b_Z_run 48 = .ok (.iaload, 1) := by decide +kernel
theorem d_Z_run_49 : decode b_Z_run 49 = .ok (.iload_n 2, 1) := by decide +kernel
theorem d_Z_run_50 : decode b_Z_run 50 = .ok (.if_icmp .le 5, 3) := by decide +kernel
theorem d_Z_run_53 : decode b_Z_run 53 = .ok (.iconst (-1), 1) := by decide +kernel
theorem d_Z_run_54 : decode b_Z_run 54 = .ok (.ireturn, 1) := by decide +kernel
theorem d_Z_run_55 : decode b_Z_run 55 = .ok (.aload_n 0, 1) := by decide +kernel
theorem d_Z_run_56 : decode b_Z_run 56 = .ok (.iconst 1, 1) := by decide +kernel
theorem d_Z_run_57 : decode b_Z_run 57 = .ok (.putfield 68, 3) := by decide +kernel
theorem d_Z_run_60 : decode b_Z_run 60 = .ok (.aload_n 0, 1) := by decide +kernel
theorem d_Z_run_61 : decode b_Z_run 61 = .ok (.aload_n 0, 1) := by decide +kernel
theorem d_Z_run_62 : decode b_Z_run 62 = .ok (.getfield 30, 3) := by decide +kernel
theorem d_Z_run_65 : decode b_Z_run 65 = .ok (.iload_n 3, 1) := by decide +kernel
theorem d_Z_run_66 : decode b_Z_run 66 = .ok (.iaload, 1) := by decide +kernel
theorem d_Z_run_67 : decode b_Z_run 67 = .ok (.putfield 121, 3) := by decide +kernel
theorem d_Z_run_70 : decode b_Z_run 70 = .ok (.aload_n 0, 1) := by decide +kernel
theorem d_Z_run_71 : decode b_Z_run 71 = .ok (.aload_n 0, 1) := by decide +kernel
theorem d_Z_run_72 : decode b_Z_run 72 = .ok (.getfield 33, 3) := by decide +kernel
theorem d_Z_run_75 : decode b_Z_run 75 = .ok (.iload_n 3, 1) := by decide +kernel
theorem d_Z_run_76 : decode b_Z_run 76 = .ok (.laload, 1) := by decide +kernel
theorem d_Z_run_77 : decode b_Z_run 77 = .ok (.putfield 124, 3) := by decide +kernel
theorem d_Z_run_80 : decode b_Z_run 80 = .ok (.aload_n 0, 1) := by decide +kernel
theorem d_Z_run_81 : decode b_Z_run 81 = .ok (.getfield 27, 3) := by decide +kernel
theorem d_Z_run_84 : decode b_Z_run 84 = .ok (.iload_n 3, 1) := by decide +kernel
theorem d_Z_run_85 : decode b_Z_run 85 = .ok (.iaload, 1) := by decide +kernel
theorem d_Z_run_86 : decode b_Z_run 86 = .ok (.istore 4, 2) := by decide +kernel
theorem d_Z_run_88 : decode b_Z_run 88 = .ok (.iconst 0, 1) := by decide +kernel
theorem d_Z_run_89 : decode b_Z_run 89 = .ok (.istore 5, 2) := by decide +kernel
theorem d_Z_run_91 : decode b_Z_run 91 = .ok (.iload 5, 2) := by decide +kernel
theorem d_Z_run_93 : decode b_Z_run 93 = .ok (.aload_n 0, 1) := by decide +kernel
theorem d_Z_run_94 : decode b_Z_run 94 = .ok (.getfield 121, 3) := by decide +kernel
theorem d_Z_run_97 : decode b_Z_run 97 = .ok (.if_icmp .ge 142, 3) := by decide +kernel
theorem d_Z_run_100 : decode b_Z_run 100 = .ok (.aload_n 0, 1) := by decide +kernel
theorem d_Z_run_101 : decode b_Z_run 101 = .ok (.getfield 121, 3) := by decide +kernel
theorem d_Z_run_104 : decode b_Z_run 104 = .ok (.iload 5, 2) := by decide +kernel
theorem d_Z_run_106 : decode b_Z_run 106 = .ok (.isub, 1) := by decide +kernel
theorem d_Z_run_107 : decode b_Z_run 107 = .ok (.iconst 1, 1) := by decide +kernel
theorem d_Z_run_108 : decode b_Z_run 108 = .ok (.isub, 1) := by decide +kernel
theorem d_Z_run_109 : decode b_Z_run 109 = .ok (.istore 6, 2) := by decide +kernel
theorem d_Z_run_111 : decode b_Z_run 111 = .ok (.iconst 0, 1) := by decide +kernel
theorem d_Z_run_112 : decode b_Z_run 112 = .ok (.istore 7, 2) := by decide +kernel
theorem d_Z_run_114 : decode b_Z_run 114 = .ok (.iconst 0, 1) := by decide +kernel
theorem d_Z_run_115 : decode b_Z_run 115 = .ok (.istore 8, 2) := by decide +kernel
theorem d_Z_run_117 : decode b_Z_run 117 = .ok (.iload 8, 2) := by decide +kernel
theorem d_Z_run_119 : decode b_Z_run 119 = .ok (.aload_n 0, 1) := by decide +kernel
theorem d_Z_run_120 : decode b_Z_run 120 = .ok (.getfield 62, 3) := by decide +kernel
theorem d_Z_run_123 : decode b_Z_run 123 = .ok (.if_icmp .ge 110, 3) := by decide +kernel
theorem d_Z_run_126 : decode b_Z_run 126 = .ok (.iload 7, 2) := by decide +kernel
theorem d_Z_run_128 : decode b_Z_run 128 = .ok (.ifCond .ne 105, 3) := by decide +kernel
theorem d_Z_run_131 : decode b_Z_run 131 = .ok (.iload 4, 2) := by decide +kernel
theorem d_Z_run_133 : decode b_Z_run 133 = .ok (.istore 9, 2) := by decide +kernel
theorem d_Z_run_135 : decode b_Z_run 135 = .ok (.iconst 1, 1) := by decide +kernel
theorem d_Z_run_136 : decode b_Z_run 136 = .ok (.istore 10, 2) := by decide +kernel
theorem d_Z_run_138 : decode b_Z_run 138 = .ok (.iload 10, 2) := by decide +kernel
theorem d_Z_run_140 : decode b_Z_run 140 = .ok (.aload_n 0, 1) := by decide +kernel
theorem d_Z_run_141 : decode b_Z_run 141 = .ok (.iload 8, 2) := by decide +kernel
theorem d_Z_run_143 : decode b_Z_run 143 = .ok (.iload_n 1, 1) := by decide +kernel
theorem d_Z_run_144 : decode b_Z_run 144 = .ok (.invokevirtual 104, 3) := by decide +kernel
theorem d_Z_run_147 : decode b_Z_run 147 = .ok (.if_icmp .gt 66, 3) := by decide +kernel
theorem d_Z_run_150 : decode b_Z_run 150 = .ok (.iload 7, 2) := by decide +kernel
theorem d_Z_run_152 : decode b_Z_run 152 = .ok (.ifCond .ne 61, 3) := by decide +kernel
theorem d_Z_run_155 : decode b_Z_run 155 = .ok (.aload_n 0, 1) := by decide +kernel
theorem d_Z_run_156 : decode b_Z_run 156 = .ok (.iload 9, 2) := by decide +kernel
theorem d_Z_run_158 : decode b_Z_run 158 = .ok (.iload 8, 2) := by decide +kernel
theorem d_Z_run_160 : decode b_Z_run 160 = .ok (.iconst 0, 1) := by decide +kernel
theorem d_Z_run_161 : decode b_Z_run 161 = .ok (.invokevirtual 107, 3) := by decide +kernel
theorem d_Z_run_164 : decode b_Z_run 164 = .ok (.istore 9, 2) := by decide +kernel
theorem d_Z_run_166 : decode b_Z_run 166 = .ok (.aload_n 0, 1) := by decide +kernel
theorem d_Z_run_167 : decode b_Z_run 167 = .ok (.getfield 30, 3) := by decide +kernel
theorem d_Z_run_170 : decode b_Z_run 170 = .ok (.aload_n 0, 1) := by decide +kernel
theorem d_Z_run_171 : decode b_Z_run 171 = .ok (.iload 9, 2) := by decide +kernel
theorem d_Z_run_173 : decode b_Z_run 173 = .ok (.invokevirtual 118, 3) := by decide +kernel
theorem d_Z_run_176 : decode b_Z_run 176 = .ok (.iaload, 1) := by decide +kernel
theorem d_Z_run_177 : decode b_Z_run 177 = .ok (.iload 6, 2) := by decide +kernel
theorem d_Z_run_179 : decode b_Z_run 179 = .ok (.if_icmp .ne 7, 3) := by decide +kernel
theorem d_Z_run_182 : decode b_Z_run 182 = .ok (.iconst 1, 1) := by decide +kernel
theorem d_Z_run_183 : decode b_Z_run 183 = .ok (.goto 4, 3) := by decide +kernel
theorem d_Z_run_186 : decode b_Z_run 186 = .ok (.iconst 0, 1) := by decide +kernel
theorem d_Z_run_187 : decode b_Z_run 187 = .ok (.istore 7, 2) := by decide +kernel
theorem d_Z_run_189 : decode b_Z_run 189 = .ok (.aload_n 0, 1) := by decide +kernel
theorem d_Z_run_190 : decode b_Z_run 190 = .ok (.getfield 41, 3) := by decide +kernel
theorem d_Z_run_193 : decode b_Z_run 193 = .ok (.iload 5, 2) := by decide +kernel
theorem d_Z_run_195 : decode b_Z_run 195 = .ok (.iload 8, 2) := by decide +kernel
theorem d_Z_run_197 : decode b_Z_run 197 = .ok (.iastore, 1) := by decide +kernel
theorem d_Z_run_198 : decode b_Z_run 198 = .ok (.aload_n 0, 1) := by decide +kernel
theorem d_Z_run_199 : decode b_Z_run 199 = .ok (.getfield 44, 3) := by decide +kernel
theorem d_Z_run_202 : decode b_Z_run 202 = .ok (.iload 5, 2) := by decide +kernel
theorem d_Z_run_204 : decode b_Z_run 204 = .ok (.iload 10, 2) := by decide +kernel
theorem d_Z_run_206 : decode b_Z_run 206 = .ok (.iastore, 1) := by decide +kernel
theorem d_Z_run_207 : decode b_Z_run 207 = .ok (.iinc 10 1, 3) := by decide +kernel
theorem d_Z_run_210 : decode b_Z_run 210 = .ok (.goto (-72), 3) := by decide +kernel
theorem d_Z_run_213 : decode b_Z_run 213 = .ok (.iload 7, 2) := by decide +kernel
theorem d_Z_run_215 : decode b_Z_run 215 = .ok (.ifCond .eq 8, 3) := by decide +kernel
theorem d_Z_run_218 : decode b_Z_run 218 = .ok (.iload 9, 2) := by decide +kernel
theorem d_Z_run_220 : decode b_Z_run 220 = .ok (.goto 5, 3) := by decide +kernel
theorem d_Z_run_223 : decode b_Z_run 223 = .ok (.iload 4, 2) := by decide +kernel
theorem d_Z_run_225 : decode b_Z_run 225 = .ok (.istore 4, 2) := by decide +kernel
theorem d_Z_run_227 : decode b_Z_run 227 = .ok (.iinc 8 1, 3) := by decide +kernel
theorem d_Z_run_230 : decode b_Z_run 230 = .ok (.goto (-113), 3) := by decide +kernel
theorem d_Z_run_233 : decode b_Z_run 233 = .ok (.iinc 5 1, 3) := by decide +kernel
theorem d_Z_run_236 : decode b_Z_run 236 = .ok (.goto (-145), 3) := by decide +kernel
theorem d_Z_run_239 : decode b_Z_run 239 = .ok (.aload_n 0, 1) := by decide +kernel
theorem d_Z_run_240 : decode b_Z_run 240 = .ok (.getfield 121, 3) := by decide +kernel
theorem d_Z_run_243 : decode b_Z_run 243 = .ok (.ireturn, 1) := by decide +kernel
theorem kw_21 : (Cond.selects "TwoEndSearchModel" ⟨"TwoEndSearchModel", "spreadOut", "(IZ)V"⟩ ⟨"TwoEndSearchModel", "spreadOut", "(IZ)V"⟩ : Cond) ∈ bigW := bigW_of 21 (by decide +kernel) (by decide +kernel)
theorem kw_28 : (Cond.selects "TwoEndSearchModel" ⟨"TwoEndSearchModel", "numberOf", "(I)I"⟩ ⟨"TwoEndSearchModel", "numberOf", "(I)I"⟩ : Cond) ∈ bigW := bigW_of 28 (by decide +kernel) (by decide +kernel)
theorem kw_480 : (Cond.fieldLink "TwoEndSearchModel" 121 "TwoEndSearchModel" "length" "I" : Cond) ∈ bigW := bigW_of 480 (by decide +kernel) (by decide +kernel)
theorem kw_481 : (Cond.fieldLink "TwoEndSearchModel" 124 "TwoEndSearchModel" "foundWays" "J" : Cond) ∈ bigW := bigW_of 481 (by decide +kernel) (by decide +kernel)
theorem kw_482 : (Cond.fieldLink "TwoEndSearchModel" 41 "TwoEndSearchModel" "foundMoves" "[I" : Cond) ∈ bigW := bigW_of 482 (by decide +kernel) (by decide +kernel)
theorem kw_483 : (Cond.fieldLink "TwoEndSearchModel" 44 "TwoEndSearchModel" "foundTimes" "[I" : Cond) ∈ bigW := bigW_of 483 (by decide +kernel) (by decide +kernel)
theorem kw_567 : (Cond.methodLink "TwoEndSearchModel" 111 ⟨"TwoEndSearchModel", "isMeasure", "(I)Z"⟩ : Cond) ∈ bigW := bigW_of 567 (by decide +kernel) (by decide +kernel)
theorem kw_568 : (Cond.static ⟨"TwoEndSearchModel", "isMeasure", "(I)Z"⟩ : Cond) ∈ bigW := bigW_of 568 (by decide +kernel) (by decide +kernel)
theorem kw_569 : (Cond.code ⟨"TwoEndSearchModel", "isMeasure", "(I)Z"⟩ prog_7_method_7_code 1 (some .boolean) : Cond) ∈ bigW := bigW_of 569 (by decide +kernel) (by decide +kernel)
theorem kw_570 : (Cond.methodLink "TwoEndSearchModel" 114 ⟨"TwoEndSearchModel", "spreadOut", "(IZ)V"⟩ : Cond) ∈ bigW := bigW_of 570 (by decide +kernel) (by decide +kernel)
theorem kw_572 : (Cond.instanceMethod ⟨"TwoEndSearchModel", "spreadOut", "(IZ)V"⟩ : Cond) ∈ bigW := bigW_of 572 (by decide +kernel) (by decide +kernel)
theorem kw_573 : (Cond.code ⟨"TwoEndSearchModel", "spreadOut", "(IZ)V"⟩ prog_7_method_21_code 8 none : Cond) ∈ bigW := bigW_of 573 (by decide +kernel) (by decide +kernel)
theorem kw_599 : (Cond.methodLink "TwoEndSearchModel" 118 ⟨"TwoEndSearchModel", "numberOf", "(I)I"⟩ : Cond) ∈ bigW := bigW_of 599 (by decide +kernel) (by decide +kernel)
theorem kw_601 : (Cond.instanceMethod ⟨"TwoEndSearchModel", "numberOf", "(I)I"⟩ : Cond) ∈ bigW := bigW_of 601 (by decide +kernel) (by decide +kernel)
theorem kw_602 : (Cond.code ⟨"TwoEndSearchModel", "numberOf", "(I)I"⟩ prog_7_method_18_code 2 (some .int) : Cond) ∈ bigW := bigW_of 602 (by decide +kernel) (by decide +kernel)
def po_Z_run (q : wz_Q) (az : Nat → Nat) (th : Int32) (n k : Nat) (kn bk : Int32) (sz : Nat) (fd : Int32) (ln : Nat) (fm : Int32) (fw : Int64) (to fo : Nat → Int32) (sb gb : Nat → Int32) (st sp : Nat → Int32) (wy : Nat → Int64) (se : Nat → Int32) (ms ts : Nat → Int32) (sg tu : Nat → Nat → Nat) (od : Nat → Nat) (sa gl : Nat) (x y : Int32) : Int32 → wz_G → Prop := fun v w => ((¬ (x = nI 0 ∨ x = nI 1) ∨ y < 0) ∧ v = -2 ∧ w = [zo_W q az (nI 0) n k kn bk sz fd ln fm fw, zt_W q az to fo, zs_W q az sb gb, zb_W q az st sp wy se, zf_W q az ms ts]) ∨ ∃ (mu mo : Nat) (S : pz_S) (st' sp' : Nat → Int32) (wy' : Nat → Int64) (se' : Nat → Int32), mu ≤ 1 ∧ x = nI mu ∧ mo < 2 ^ 31 ∧ y = nI mo ∧ zk n k 6 sg tu od mu gl S st' sp' wy' se' ∧ ((v = -1 ∧ w = [zo_W q az (nI 0) n k (nI mu) (nI 1) S.1.length (nI 0) ln fm fw, zt_W q az to fo, zs_W q az sb gb, zb_W q az st' sp' wy' se', zf_W q az ms ts] ∧ ∀ K9, pz_dist (bl_s n k 0 sg tu od (nI mu)) sa gl K9 → mo < K9) ∨ ∃ (len : Nat) (mv9 tm9 X9 : Nat → Nat) (ms' ts' : Nat → Int32), v = nI len ∧ w = [zo_W q az (nI 0) n k (nI mu) (nI 1) S.1.length (nI 1) len fm (lN (pz_cnt gl (pz_ends (bl_s n k 0 sg tu od (nI mu)) sa len))), zt_W q az to fo, zs_W q az sb gb, zb_W q az st' sp' wy' se', zf_W q az ms' ts'] ∧ pz_dist (bl_s n k 0 sg tu od (nI mu)) sa gl len ∧ len ≤ mo ∧ len < 40320 ∧ pz_row k (bl_mt (nI mu) od) (bl_g n 0 sg tu) (pz_dist (bl_s n k 6 sg tu od (nI mu)) gl) sa len mv9 tm9 X9 ∧ ∀ i, i < len → ms' i = nI (mv9 i) ∧ ts' i = nI (tm9 i))
set_option maxHeartbeats 4000000 in
set_option maxRecDepth 100000 in
/-- a shortest row -/
theorem c_Z_run (l : Launch) (D : va_G) (q : wz_Q) (az : Nat → Nat) (th : Int32) (n k : Nat) (kn bk : Int32) (sz : Nat) (fd : Int32) (ln : Nat) (fm : Int32) (fw : Int64) (to fo : Nat → Int32) (sb gb : Nat → Int32) (st sp : Nat → Int32) (wy : Nat → Int64) (se : Nat → Int32) (ms ts : Nat → Int32) (sg tu : Nat → Nat → Nat) (od : Nat → Nat) (sa gl : Nat) (x y : Int32) (hn : n ≤ 8) (hk : k ≤ 6) (hok : zm_ok n k to fo sg tu od) (hsa : zs_ok n sb sa) (hgl : zs_ok n gb gl) (hkn : ∀ mu, mu ≤ 1 → kn = nI mu → bk = nI 1 → ∃ S, sz = S.1.length ∧ zk n k 6 sg tu od mu gl S st sp wy se) : wz_Mi l y_Z_run ws_Z_run ({ frames := 3, cells := 0, slots := 0, locals := 72 } : Room) D q ([.ref (az 0), .int x, .int y] : List Value) [zo_W q az th n k kn bk sz fd ln fm fw, zt_W q az to fo, zs_W q az sb gb, zb_W q az st sp wy se, zf_W q az ms ts] (po_Z_run q az th n k kn bk sz fd ln fm fw to fo sb gb st sp wy se ms ts sg tu od sa gl x y) 0 0 := by
  intro sz9
  refine wz_enter (cc := b_Z_run) (maxL := 11) (ret := (some .int)) (Qc := fun A => (va_Qi (po_Z_run q az th n k kn bk sz fd ln fm fw to fo sb gb st sp wy se ms ts sg tu od sa gl x y) (wz_At D q A) A)) (by decide) (Nat.le_of_ble_eq_true rfl) ?_
  intro p e s m below meth c A ls C hP hD hS hl
  obtain ⟨hx, hb, hr, hml, hlocks, hown, hts, hN, hK, hA, hnm⟩ := C
  have hown : s.vm.findClass "TwoEndSearchModel" = some m.cls := hown
  have hl : lv_has ls 11 [(0, .ref (az 0)), (1, .int x), (2, .int y)] := hl
  refine lv_aload_n hx hb d_Z_run_0 rfl (lv_at hl 0 rfl) ?_
  refine lv_iconst (v := nI 0) hx hb d_Z_run_1 (by decide) ?_
  refine wz_put (gs' := [zo_W q az (nI 0) n k kn bk sz fd ln fm fw, zt_W q az to fo, zs_W q az sb gb, zb_W q az st sp wy se, zf_W q az ms ts]) (v := .int (nI 0)) (T := T_Z) (N := 22) hx hb hts i_Z t_Z t_Z_ok n_Z hown hK hP hD hS 0 0 rfl rfl rfl 0 (by decide) (hts _ kw_465) rfl rfl (ty := t_Z 0) (by decide +kernel) rfl rfl (Nat.le_of_ble_eq_true rfl) d_Z_run_2 rfl (fun H locs hP hD hS => ?_)
  refine lv_iload_n hx hb d_Z_run_5 rfl (lv_at hl 1 rfl) ?_
  have hQ := wz_split (n := 5) (gc := []) (gr := [zo_W q az (nI 0) n k kn bk sz fd ln fm fw, zt_W q az to fo, zs_W q az sb gb, zb_W q az st sp wy se, zf_W q az ms ts]) [] [0, 1, 2, 3, 4] rfl (by decide) rfl rfl hP hD
  refine wz_calli (va_runS (As := [.int x]) (rest := []) ⟨hx, hb, hml, hown, hts⟩ (c_Z_isMeasure l D q x _) (va_cwS 1 hts (wz_goodS kw_567 kw_568 kw_37 kw_569) rfl rfl rfl (by decide +kernel) ⟨Nat.le_of_ble_eq_true rfl, Nat.le_of_ble_eq_true rfl⟩) (wz_preS hN hK hQ wz_L_ok) rfl rfl hl.1 rfl (lv_room (Nat.le_of_ble_eq_true rfl)) d_Z_run_6 ⟨Nat.le_of_ble_eq_true rfl, Nat.le_of_ble_eq_true rfl⟩) hQ hS hA (fun v_6 gx H locs hp0 hP hD hS => ?_)
  obtain ⟨rfl, hp0⟩ := hp0
  obtain ⟨hP, hD⟩ := wz_ord (n := 5) (gs' := [zo_W q az (nI 0) n k kn bk sz fd ln fm fw, zt_W q az to fo, zs_W q az sb gb, zb_W q az st sp wy se, zf_W q az ms ts]) [0, 1, 2, 3, 4] rfl (by decide) rfl hP hD
  refine lv_if_eq (tgt := 16) hx hb d_Z_run_9 (by decide) (fun hc => ?_) (fun hc => ?_)
  · skip
    refine lv_bipush (v := (-2)) hx hb d_Z_run_16 (by decide) ?_
    exact wz_iret hx hb hr hlocks hK hP hD hS d_Z_run_18 (Or.inl ⟨Or.inl (wz_bit_0 hp0 hc), rfl, rfl⟩)
  · skip
    obtain ⟨mu, hmu, rfl⟩ : ∃ mu, mu ≤ 1 ∧ x = nI mu := (wz_bit_1 hp0 hc).elim (fun q => ⟨0, by omega, q⟩) (fun q => ⟨1, by omega, q⟩)
    refine lv_iload_n hx hb d_Z_run_12 rfl (lv_at hl 2 rfl) ?_
    refine lv_if_ge (tgt := 19) hx hb d_Z_run_13 (by decide) (fun hc1 => ?_) (fun hc1 => ?_)
    · skip
      have hy0 : ¬ y < 0 := fun q => by
        have h1 := Int32.lt_iff_toInt_lt.mp q
        have h2 := Int32.le_iff_toInt_le.mp hc1
        omega
      obtain ⟨mo, hmo, rfl⟩ := nI_of hy0
      have hra : pz_arr n gl gl := pz_arr_self hgl.1
      have hmv := zm_mv hk hok
      have harr := bl_s_arr (me := nI mu) (a0 := gl) hmv hk (fw := 6) (by decide)
      have hrv := bl_rev (me := nI mu) hmv hk
      have hrv2 : ∀ u v, pz_cnt v (bl_s n k 6 sg tu od (nI mu) u) = pz_cnt u (bl_s n k 0 sg tu od (nI mu) v) := fun u v => (hrv v u).symm
      have hmt : ∀ o, o < k → bl_mt (nI mu) od o ≤ 14 := fun o ho => bl_mt_le hmv ho
      refine lv_aload_n hx hb d_Z_run_19 rfl (lv_at hl 0 rfl) ?_
      refine lv_iconst (v := nI 0) hx hb d_Z_run_20 (by decide) ?_
      refine wz_put (gs' := [zo_W q az (nI 0) n k kn bk sz (nI 0) ln fm fw, zt_W q az to fo, zs_W q az sb gb, zb_W q az st sp wy se, zf_W q az ms ts]) (v := .int (nI 0)) (T := T_Z) (N := 22) hx hb hts i_Z t_Z t_Z_ok n_Z hown hK hP hD hS 0 0 rfl rfl rfl 14 (by decide) (hts _ kw_479) rfl rfl (ty := t_Z 14) (by decide +kernel) rfl rfl (Nat.le_of_ble_eq_true rfl) d_Z_run_21 rfl (fun H locs hP hD hS => ?_)
      refine lv_aload_n hx hb d_Z_run_24 rfl (lv_at hl 0 rfl) ?_
      refine lv_iload_n hx hb d_Z_run_25 rfl (lv_at hl 1 rfl) ?_
      refine lv_iconst (v := nI 1) hx hb d_Z_run_26 (by decide) ?_
      have hQ := wz_split (n := 5) (gc := [zo_W q az (nI 0) n k kn bk sz (nI 0) ln fm fw, zt_W q az to fo, zs_W q az sb gb, zb_W q az st sp wy se]) (gr := [zf_W q az ms ts]) [0, 1, 2, 3] [4] rfl (by decide) rfl rfl hP hD
      refine wz_callv (va_runV (As := [.int (nI mu), .int (nI 1)]) (rest := []) ⟨hx, hb, hml, hown, hts⟩ (c_Z_spreadOut1 l D q az (nI 0) n k kn bk sz (nI 0) ln fm fw to fo sb gb st sp wy se sg tu od mu sa gl hn hk hmu hok hsa hgl (hkn mu hmu) _) (cwV 2 hts (wz_goodV kw_570 kw_572 kw_21 kw_37 kw_573) rfl rfl rfl (by decide +kernel) ⟨Nat.le_of_ble_eq_true rfl, Nat.le_of_ble_eq_true rfl⟩) (wz_preV (gi := 0) (k := 0) hN hK hQ wz_L_ok rfl rfl rfl) rfl rfl hl.1 rfl (lv_room (Nat.le_of_ble_eq_true rfl)) d_Z_run_27 ⟨Nat.le_of_ble_eq_true rfl, Nat.le_of_ble_eq_true rfl⟩) hQ hS hA (fun gx H locs hp hP hD hS => ?_)
      obtain ⟨S, st1, sp1, wy1, se1, rfl, hZ⟩ := hp
      obtain ⟨hz, hinv, hm⟩ := hZ
      obtain ⟨sf, hse, hht⟩ := hz.2.2
      have hlen := zb_len hn hz.1 hm
      obtain ⟨hP, hD⟩ := wz_ord (n := 5) (gs' := [zo_W q az (nI 0) n k (nI mu) (nI 1) S.1.length (nI 0) ln fm fw, zt_W q az to fo, zs_W q az sb gb, zb_W q az st1 sp1 wy1 se1, zf_W q az ms ts]) [0, 1, 2, 3, 4] rfl (by decide) rfl hP hD
      refine lv_aload_n hx hb d_Z_run_30 rfl (lv_at hl 0 rfl) ?_
      refine lv_aload_n hx hb d_Z_run_31 rfl (lv_at hl 0 rfl) ?_
      have hQ := wz_split (n := 5) (gc := [zo_W q az (nI 0) n k (nI mu) (nI 1) S.1.length (nI 0) ln fm fw, zs_W q az sb gb]) (gr := [zt_W q az to fo, zb_W q az st1 sp1 wy1 se1, zf_W q az ms ts]) [0, 2] [1, 3, 4] rfl (by decide) rfl rfl hP hD
      refine wz_calli (va_runV (As := []) (rest := [.ref (az 0)]) ⟨hx, hb, hml, hown, hts⟩ (c_Z_codeOfStart l D q az (nI 0) n k (nI mu) (nI 1) S.1.length (nI 0) ln fm fw sb gb sa hn hsa _) (cwV 0 hts (wz_goodV kw_578 kw_580 kw_23 kw_37 kw_581) rfl rfl rfl (by decide +kernel) ⟨Nat.le_of_ble_eq_true rfl, Nat.le_of_ble_eq_true rfl⟩) (wz_preV (gi := 0) (k := 0) hN hK hQ wz_L_ok rfl rfl rfl) rfl rfl hl.1 rfl (lv_room (Nat.le_of_ble_eq_true rfl)) d_Z_run_32 ⟨Nat.le_of_ble_eq_true rfl, Nat.le_of_ble_eq_true rfl⟩) hQ hS hA (fun v_32 gx H locs hp hP hD hS => ?_)
      obtain ⟨rfl, rfl⟩ := hp
      obtain ⟨hP, hD⟩ := wz_ord (n := 5) (gs' := [zo_W q az (nI 0) n k (nI mu) (nI 1) S.1.length (nI 0) ln fm fw, zt_W q az to fo, zs_W q az sb gb, zb_W q az st1 sp1 wy1 se1, zf_W q az ms ts]) [0, 2, 1, 3, 4] rfl (by decide) rfl hP hD
      have hQ := wz_split (n := 5) (gc := [zo_W q az (nI 0) n k (nI mu) (nI 1) S.1.length (nI 0) ln fm fw, zb_W q az st1 sp1 wy1 se1]) (gr := [zt_W q az to fo, zs_W q az sb gb, zf_W q az ms ts]) [0, 3] [1, 2, 4] rfl (by decide) rfl rfl hP hD
      refine wz_calli (va_runV (As := [.int (nI sa)]) (rest := []) ⟨hx, hb, hml, hown, hts⟩ (c_Z_numberOf l D q az (nI 0) n k (nI mu) (nI 1) S.1.length (nI 0) ln fm fw st1 sp1 wy1 se1 S.1 sf sa (fun i9 x9 h9 => (hz.2.1 i9 x9 h9).1) hse hht hlen (pz_lt31 hn hsa.1) (fun x9 h9 => pz_lt31 hn (hm x9 h9).1) hz.1.1 _) (cwV 1 hts (wz_goodV kw_599 kw_601 kw_28 kw_37 kw_602) rfl rfl rfl (by decide +kernel) ⟨Nat.le_of_ble_eq_true rfl, Nat.le_of_ble_eq_true rfl⟩) (wz_preV (gi := 0) (k := 0) hN hK hQ wz_L_ok rfl rfl rfl) rfl rfl hl.1 rfl (lv_room (Nat.le_of_ble_eq_true rfl)) d_Z_run_35 ⟨Nat.le_of_ble_eq_true rfl, Nat.le_of_ble_eq_true rfl⟩) hQ hS hA (fun v_35 gx H locs hp hP hD hS => ?_)
      obtain ⟨rfl, hv⟩ := hp
      obtain ⟨hP, hD⟩ := wz_ord (n := 5) (gs' := [zo_W q az (nI 0) n k (nI mu) (nI 1) S.1.length (nI 0) ln fm fw, zt_W q az to fo, zs_W q az sb gb, zb_W q az st1 sp1 wy1 se1, zf_W q az ms ts]) [0, 2, 3, 1, 4] rfl (by decide) rfl hP hD
      rcases hv with ⟨j0, hj0, rfl⟩ | ⟨hno, rfl⟩
      · skip
        have hjl := (List.getElem?_eq_some_iff.mp hj0).1
        obtain ⟨len, hfar⟩ := pz_mem_far hz.1 (List.mem_of_getElem? hj0)
        have hl4 := zk_far hn harr hra hinv hfar
        have hdg := pz_exact hinv hfar
        have hdist := pz_dist_rev hrv2 hdg
        refine lv_istore_n (lv' := [(3, .int (nI j0)), (0, .ref (az 0)), (1, .int (nI mu)), (2, .int (nI mo))]) hx hb d_Z_run_38 rfl hl (by decide) rfl (fun ls hl => ?_)
        refine lv_iload_n hx hb d_Z_run_39 rfl (lv_at hl 0 rfl) ?_
        refine lv_if_lt (tgt := 53) hx hb d_Z_run_40 (by decide) (fun hc2 => ?_) (fun hc2 => ?_)
        · skip
          exact absurd hc2 (nI_pos (by omega))
        · skip
          refine lv_aload_n hx hb d_Z_run_43 rfl (lv_at hl 1 rfl) ?_
          refine wz_get (v := .ref (az 6)) (T := T_Z) (N := 22) hx hb hts i_Z hown hK hP 0 0 rfl rfl rfl 11 (by decide) (hts _ kw_476) rfl rfl d_Z_run_44 ?_
          refine lv_iload_n hx hb d_Z_run_47 rfl (lv_at hl 0 rfl) ?_
          refine wz_iald hx hb hK hP 3 1 (j := j0) rfl rfl (by omega) (by decide) d_Z_run_48 ?_
          refine wz_topi (y := nI len) (zb_far hz hj0 hfar) ?_
          refine lv_iload_n hx hb d_Z_run_49 rfl (lv_at hl 3 rfl) ?_
          refine wz_le (tgt := 55) hx hb d_Z_run_50 (by decide) (by omega) (by omega) (fun hc3 => ?_) (fun hc3 => ?_)
          · skip
            refine lv_aload_n hx hb d_Z_run_55 rfl (lv_at hl 1 rfl) ?_
            refine lv_iconst (v := nI 1) hx hb d_Z_run_56 (by decide) ?_
            refine wz_put (gs' := [zo_W q az (nI 0) n k (nI mu) (nI 1) S.1.length (nI 1) ln fm fw, zt_W q az to fo, zs_W q az sb gb, zb_W q az st1 sp1 wy1 se1, zf_W q az ms ts]) (v := .int (nI 1)) (T := T_Z) (N := 22) hx hb hts i_Z t_Z t_Z_ok n_Z hown hK hP hD hS 0 0 rfl rfl rfl 14 (by decide) (hts _ kw_479) rfl rfl (ty := t_Z 14) (by decide +kernel) rfl rfl (Nat.le_of_ble_eq_true rfl) d_Z_run_57 rfl (fun H locs hP hD hS => ?_)
            refine lv_aload_n hx hb d_Z_run_60 rfl (lv_at hl 1 rfl) ?_
            refine lv_aload_n hx hb d_Z_run_61 rfl (lv_at hl 1 rfl) ?_
            refine wz_get (v := .ref (az 6)) (T := T_Z) (N := 22) hx hb hts i_Z hown hK hP 0 0 rfl rfl rfl 11 (by decide) (hts _ kw_476) rfl rfl d_Z_run_62 ?_
            refine lv_iload_n hx hb d_Z_run_65 rfl (lv_at hl 0 rfl) ?_
            refine wz_iald hx hb hK hP 3 1 (j := j0) rfl rfl (by omega) (by decide) d_Z_run_66 ?_
            refine wz_topi (y := nI len) (zb_far hz hj0 hfar) ?_
            refine wz_put (gs' := [zo_W q az (nI 0) n k (nI mu) (nI 1) S.1.length (nI 1) len fm fw, zt_W q az to fo, zs_W q az sb gb, zb_W q az st1 sp1 wy1 se1, zf_W q az ms ts]) (v := .int (nI len)) (T := T_Z) (N := 22) hx hb hts i_Z t_Z t_Z_ok n_Z hown hK hP hD hS 0 0 rfl rfl rfl 15 (by decide) (hts _ kw_480) rfl rfl (ty := t_Z 15) (by decide +kernel) rfl rfl (Nat.le_of_ble_eq_true rfl) d_Z_run_67 rfl (fun H locs hP hD hS => ?_)
            refine lv_aload_n hx hb d_Z_run_70 rfl (lv_at hl 1 rfl) ?_
            refine lv_aload_n hx hb d_Z_run_71 rfl (lv_at hl 1 rfl) ?_
            refine wz_get (v := .ref (az 7)) (T := T_Z) (N := 22) hx hb hts i_Z hown hK hP 0 0 rfl rfl rfl 12 (by decide) (hts _ kw_477) rfl rfl d_Z_run_72 ?_
            refine lv_iload_n hx hb d_Z_run_75 rfl (lv_at hl 0 rfl) ?_
            refine wz_lald hx hb hK hP 3 2 (j := j0) rfl rfl (by omega) (by decide) d_Z_run_76 ?_
            refine wz_topl (y := lN (pz_cnt gl (pz_ends (bl_s n k 0 sg tu od (nI mu)) sa len))) ((hz.2.1 j0 sa hj0).2.2.trans ((zk_ways hinv hfar).trans (congrArg lN (pz_rev hrv _ _ _).symm))) ?_
            refine wz_put (gs' := [zo_W q az (nI 0) n k (nI mu) (nI 1) S.1.length (nI 1) len fm (lN (pz_cnt gl (pz_ends (bl_s n k 0 sg tu od (nI mu)) sa len))), zt_W q az to fo, zs_W q az sb gb, zb_W q az st1 sp1 wy1 se1, zf_W q az ms ts]) (v := .long (lN (pz_cnt gl (pz_ends (bl_s n k 0 sg tu od (nI mu)) sa len)))) (T := T_Z) (N := 22) hx hb hts i_Z t_Z t_Z_ok n_Z hown hK hP hD hS 0 0 rfl rfl rfl 17 (by decide) (hts _ kw_481) rfl rfl (ty := t_Z 17) (by decide +kernel) rfl rfl (Nat.le_of_ble_eq_true rfl) d_Z_run_77 rfl (fun H locs hP hD hS => ?_)
            refine lv_aload_n hx hb d_Z_run_80 rfl (lv_at hl 1 rfl) ?_
            refine wz_get (v := .ref (az 5)) (T := T_Z) (N := 22) hx hb hts i_Z hown hK hP 0 0 rfl rfl rfl 10 (by decide) (hts _ kw_475) rfl rfl d_Z_run_81 ?_
            refine lv_iload_n hx hb d_Z_run_84 rfl (lv_at hl 0 rfl) ?_
            refine wz_iald hx hb hK hP 3 0 (j := j0) rfl rfl (by omega) (by decide) d_Z_run_85 ?_
            refine wz_topi (y := nI sa) (hz.2.1 j0 sa hj0).1 ?_
            refine lv_istore (lv' := [(4, .int (nI sa)), (3, .int (nI j0)), (0, .ref (az 0)), (1, .int (nI mu)), (2, .int (nI mo))]) hx hb d_Z_run_86 hl (by decide) rfl (fun ls hl => ?_)
            refine lv_iconst (v := nI 0) hx hb d_Z_run_88 (by decide) ?_
            refine lv_istore (lv' := [(5, .int (nI 0)), (4, .int (nI sa)), (3, .int (nI j0)), (0, .ref (az 0)), (1, .int (nI mu)), (2, .int (nI mo))]) hx hb d_Z_run_89 hl (by decide) rfl (fun ls hl => ?_)
            have loop : ∀ (d : Nat) (i : Nat) (mv9 tm9 X9 : Nat → Nat) (ms1 ts1 : Nat → Int32), i ≤ len → len + 1 ≤ i + d → zr_row k (bl_mt (nI mu) od) (bl_g n 0 sg tu) (pz_dist (bl_s n k 6 sg tu od (nI mu)) gl) sa len i mv9 tm9 X9 ms1 ts1 → pz_dist (bl_s n k 0 sg tu od (nI mu)) sa (X9 i) i → pz_dist (bl_s n k 6 sg tu od (nI mu)) gl (X9 i) (len - i) → ∀ (H : Heap) (locs : List Loc) (ls : Array Slot), va_P D vwCl ([zo_W q az (nI 0) n k (nI mu) (nI 1) S.1.length (nI 1) len fm (lN (pz_cnt gl (pz_ends (bl_s n k 0 sg tu od (nI mu)) sa len))), zt_W q az to fo, zs_W q az sb gb, zb_W q az st1 sp1 wy1 se1, zf_W q az ms1 ts1] : wz_G).flatten H → va_D A ([zo_W q az (nI 0) n k (nI mu) (nI 1) S.1.length (nI 1) len fm (lN (pz_cnt gl (pz_ends (bl_s n k 0 sg tu od (nI mu)) sa len))), zt_W q az to fo, zs_W q az sb gb, zb_W q az st1 sp1 wy1 se1, zf_W q az ms1 ts1] : wz_G).flatten → va_S A s.heap H locs → lv_has ls 11 [(0, .ref (az 0)), (1, .int (nI mu)), (2, .int (nI mo)), (3, .int (nI j0)), (4, .int (nI (X9 i))), (5, .int (nI i))] → W p l e ({ frames := 3, cells := 0, slots := 0, locals := 72 } : Room) s m ([.ref (az 0), .int (nI mu), .int (nI mo)] : List Value).toArray below meth c H locs 0 0 (MQ below (va_Qi (po_Z_run q az th n k kn bk sz fd ln fm fw to fo sb gb st sp wy se ms ts sg tu od sa gl (nI mu) (nI mo)) (wz_At D q A) A) ([.ref (az 0), .int (nI mu), .int (nI mo)] : List Value).toArray s 0 0 A) (F0 m 91 ls []) := by
              intro d
              induction d with
              | zero =>
                intro i mv9 tm9 X9 ms1 ts1 hi hd hrow hdx hdy
                omega
              | succ d ih =>
                intro i mv9 tm9 X9 ms1 ts1 hi hd hrow hdx hdy H locs ls hP hD hS hl
                refine lv_iload hx hb d_Z_run_91 (lv_at hl 5 rfl) ?_
                refine lv_aload_n hx hb d_Z_run_93 rfl (lv_at hl 0 rfl) ?_
                refine wz_get (v := .int (nI len)) (T := T_Z) (N := 22) hx hb hts i_Z hown hK hP 0 0 rfl rfl rfl 15 (by decide) (hts _ kw_480) rfl rfl d_Z_run_94 ?_
                refine wz_ge (tgt := 239) hx hb d_Z_run_97 (by decide) (by omega) (by omega) (fun hc4 => ?_) (fun hc4 => ?_)
                · skip
                  have hie : len = i := by omega
                  subst hie
                  refine lv_aload_n hx hb d_Z_run_239 rfl (lv_at hl 0 rfl) ?_
                  refine wz_get (v := .int (nI len)) (T := T_Z) (N := 22) hx hb hts i_Z hown hK hP 0 0 rfl rfl rfl 15 (by decide) (hts _ kw_480) rfl rfl d_Z_run_240 ?_
                  exact wz_iret hx hb hr hlocks hK hP hD hS d_Z_run_243 (Or.inr ⟨mu, mo, S, st1, sp1, wy1, se1, hmu, rfl, hmo, rfl, ⟨hz, hinv, hm⟩, Or.inr ⟨len, mv9, tm9, X9, ms1, ts1, rfl, rfl, hdist, hc3, hl4, ⟨hrow.1, fun j hj => (hrow.2 j hj).1⟩, fun j hj => (hrow.2 j hj).2⟩⟩)
                · skip
                  obtain ⟨hex, hiff, hkey⟩ := bl_near hrv hdist (fun y e he => pz_exact hinv he) (fun y f e _ h2 _ => (zk_dist hinv).mpr h2) hc4 hdx hdy
                  have hxS : X9 i ∈ S.1 := pz_far_mem hz.1 ((zk_dist hinv).mpr hdy)
                  have hxa := hm _ hxS
                  have hx24 := pz_lt31 hn hxa.1
                  refine lv_aload_n hx hb d_Z_run_100 rfl (lv_at hl 0 rfl) ?_
                  refine wz_get (v := .int (nI len)) (T := T_Z) (N := 22) hx hb hts i_Z hown hK hP 0 0 rfl rfl rfl 15 (by decide) (hts _ kw_480) rfl rfl d_Z_run_101 ?_
                  refine lv_iload hx hb d_Z_run_104 (lv_at hl 5 rfl) ?_
                  refine lv_isub hx hb d_Z_run_106 ?_
                  refine wz_topi (y := nI (len - i)) (pk_sub (by omega)) ?_
                  refine lv_iconst (v := nI 1) hx hb d_Z_run_107 (by decide) ?_
                  refine lv_isub hx hb d_Z_run_108 ?_
                  refine wz_topi (y := nI (len - i - 1)) (pk_sub (by omega)) ?_
                  refine lv_istore (lv' := [(6, .int (nI (len - i - 1))), (0, .ref (az 0)), (1, .int (nI mu)), (2, .int (nI mo)), (3, .int (nI j0)), (4, .int (nI (X9 i))), (5, .int (nI i))]) hx hb d_Z_run_109 hl (by decide) rfl (fun ls hl => ?_)
                  refine lv_iconst (v := nI 0) hx hb d_Z_run_111 (by decide) ?_
                  refine lv_istore (lv' := [(7, .int (nI 0)), (6, .int (nI (len - i - 1))), (0, .ref (az 0)), (1, .int (nI mu)), (2, .int (nI mo)), (3, .int (nI j0)), (4, .int (nI (X9 i))), (5, .int (nI i))]) hx hb d_Z_run_112 hl (by decide) rfl (fun ls hl => ?_)
                  refine lv_iconst (v := nI 0) hx hb d_Z_run_114 (by decide) ?_
                  refine lv_istore (lv' := [(8, .int (nI 0)), (7, .int (nI 0)), (6, .int (nI (len - i - 1))), (0, .ref (az 0)), (1, .int (nI mu)), (2, .int (nI mo)), (3, .int (nI j0)), (4, .int (nI (X9 i))), (5, .int (nI i))]) hx hb d_Z_run_115 hl (by decide) rfl (fun ls hl => ?_)
                  have hnext : ∀ (cv : Nat) (ga : Bool) (o : Nat) (ms2 ts2 : Nat → Int32), zr_row k (bl_mt (nI mu) od) (bl_g n 0 sg tu) (pz_dist (bl_s n k 6 sg tu od (nI mu)) gl) sa len i mv9 tm9 X9 ms2 ts2 → zr_m k (bl_mt (nI mu) od) (bl_g n 0 sg tu) (fun m t => pz_dist (bl_s n k 6 sg tu od (nI mu)) gl (pz_it (bl_g n 0 sg tu m) t (X9 i)) (len - i - 1)) (X9 i) cv ga o (ms2 i) (ts2 i) → ga = true ∨ k ≤ o → ∀ (H : Heap) (locs : List Loc) (ls : Array Slot), va_P D vwCl ([zo_W q az (nI 0) n k (nI mu) (nI 1) S.1.length (nI 1) len fm (lN (pz_cnt gl (pz_ends (bl_s n k 0 sg tu od (nI mu)) sa len))), zt_W q az to fo, zs_W q az sb gb, zb_W q az st1 sp1 wy1 se1, zf_W q az ms2 ts2] : wz_G).flatten H → va_D A ([zo_W q az (nI 0) n k (nI mu) (nI 1) S.1.length (nI 1) len fm (lN (pz_cnt gl (pz_ends (bl_s n k 0 sg tu od (nI mu)) sa len))), zt_W q az to fo, zs_W q az sb gb, zb_W q az st1 sp1 wy1 se1, zf_W q az ms2 ts2] : wz_G).flatten → va_S A s.heap H locs → lv_has ls 11 [(0, .ref (az 0)), (1, .int (nI mu)), (2, .int (nI mo)), (3, .int (nI j0)), (4, .int (nI cv)), (5, .int (nI i)), (6, .int (nI (len - i - 1))), (7, .int (bl_b ga)), (8, .int (nI o))] → W p l e ({ frames := 3, cells := 0, slots := 0, locals := 72 } : Room) s m ([.ref (az 0), .int (nI mu), .int (nI mo)] : List Value).toArray below meth c H locs 0 0 (MQ below (va_Qi (po_Z_run q az th n k kn bk sz fd ln fm fw to fo sb gb st sp wy se ms ts sg tu od sa gl (nI mu) (nI mo)) (wz_At D q A) A) ([.ref (az 0), .int (nI mu), .int (nI mo)] : List Value).toArray s 0 0 A) (F0 m 233 ls []) := by
                    intro cv ga o ms2 ts2 hrow2 hzm hga H locs ls hP hD hS hl
                    have hgt : ga = true := by
                      rcases hga with q | q
                      · exact q
                      · cases ga with
                        | true => rfl
                        | false =>
                          obtain ⟨m9, t9, b1, b2, b3, b4⟩ := hex
                          exact absurd (pz_exact hinv b4) ((hzm.1 rfl).2 m9 t9 (by omega) b2 b3)
                    obtain ⟨mm, t9, hfst, hcv, hma, hta⟩ := hzm.2 hgt
                    subst hcv
                    have hrow3 := zr_row_s hrow2 hfst hma hta
                    have hdg' := hfst.2.2.2.1
                    have hds' := hkey _ (pz_st_mem.mpr ⟨mm, t9, hfst.1, hfst.2.1, hfst.2.2.1, rfl⟩) hdg'
                    refine lv_iinc (v := nI (i + 1)) (lv' := [(5, .int (nI (i + 1))), (0, .ref (az 0)), (1, .int (nI mu)), (2, .int (nI mo)), (3, .int (nI j0)), (4, .int (nI (pz_it (bl_g n 0 sg tu mm) t9 (X9 i)))), (6, .int (nI (len - i - 1))), (7, .int (bl_b ga)), (8, .int (nI o))]) hx hb d_Z_run_233 hl (k := 5) rfl (nI_1 i) (by decide) rfl (fun ls hl => ?_)
                    refine lv_goto (tgt := 91) hx hb d_Z_run_236 (by decide) ?_
                    have hl : lv_has ls 11 [(5, .int (nI (i + 1))), (0, .ref (az 0)), (1, .int (nI mu)), (2, .int (nI mo)), (3, .int (nI j0)), (4, .int (nI (pz_it (bl_g n 0 sg tu mm) t9 (X9 i)))), (6, .int (nI (len - i - 1))), (7, .int (bl_b ga)), (8, .int (nI o))] := hl
                    rw [show nI (pz_it (bl_g n 0 sg tu mm) t9 (X9 i)) = nI (pz_up X9 (i + 1) (pz_it (bl_g n 0 sg tu mm) t9 (X9 i)) (i + 1)) by rw [pz_up_s]] at hl
                    exact ih (i + 1) (pz_up mv9 i mm) (pz_up tm9 i t9) (pz_up X9 (i + 1) (pz_it (bl_g n 0 sg tu mm) t9 (X9 i))) ms2 ts2 (by omega) (by omega) hrow3 (by rw [pz_up_s]; exact hds') (by rw [pz_up_s, show len - (i + 1) = len - i - 1 by omega]; exact hdg') _ _ _ hP hD hS (lv_sub hl [1, 2, 3, 4, 5, 0] rfl)
                  have loop2 : ∀ (d2 : Nat) (o cv : Nat) (ga : Bool) (ms2 ts2 : Nat → Int32), o ≤ k → k + 1 ≤ o + d2 → zr_row k (bl_mt (nI mu) od) (bl_g n 0 sg tu) (pz_dist (bl_s n k 6 sg tu od (nI mu)) gl) sa len i mv9 tm9 X9 ms2 ts2 → zr_m k (bl_mt (nI mu) od) (bl_g n 0 sg tu) (fun m t => pz_dist (bl_s n k 6 sg tu od (nI mu)) gl (pz_it (bl_g n 0 sg tu m) t (X9 i)) (len - i - 1)) (X9 i) cv ga o (ms2 i) (ts2 i) → ∀ (H : Heap) (locs : List Loc) (ls : Array Slot), va_P D vwCl ([zo_W q az (nI 0) n k (nI mu) (nI 1) S.1.length (nI 1) len fm (lN (pz_cnt gl (pz_ends (bl_s n k 0 sg tu od (nI mu)) sa len))), zt_W q az to fo, zs_W q az sb gb, zb_W q az st1 sp1 wy1 se1, zf_W q az ms2 ts2] : wz_G).flatten H → va_D A ([zo_W q az (nI 0) n k (nI mu) (nI 1) S.1.length (nI 1) len fm (lN (pz_cnt gl (pz_ends (bl_s n k 0 sg tu od (nI mu)) sa len))), zt_W q az to fo, zs_W q az sb gb, zb_W q az st1 sp1 wy1 se1, zf_W q az ms2 ts2] : wz_G).flatten → va_S A s.heap H locs → lv_has ls 11 [(0, .ref (az 0)), (1, .int (nI mu)), (2, .int (nI mo)), (3, .int (nI j0)), (4, .int (nI cv)), (5, .int (nI i)), (6, .int (nI (len - i - 1))), (7, .int (bl_b ga)), (8, .int (nI o))] → W p l e ({ frames := 3, cells := 0, slots := 0, locals := 72 } : Room) s m ([.ref (az 0), .int (nI mu), .int (nI mo)] : List Value).toArray below meth c H locs 0 0 (MQ below (va_Qi (po_Z_run q az th n k kn bk sz fd ln fm fw to fo sb gb st sp wy se ms ts sg tu od sa gl (nI mu) (nI mo)) (wz_At D q A) A) ([.ref (az 0), .int (nI mu), .int (nI mo)] : List Value).toArray s 0 0 A) (F0 m 117 ls []) := by
                    intro d2
                    induction d2 with
                    | zero =>
                      intro o cv ga ms2 ts2 hok2 hd2 hrow2 hzm
                      omega
                    | succ d2 ih2 =>
                      intro o cv ga ms2 ts2 hok2 hd2 hrow2 hzm H locs ls hP hD hS hl
                      refine lv_iload hx hb d_Z_run_117 (lv_at hl 8 rfl) ?_
                      refine lv_aload_n hx hb d_Z_run_119 rfl (lv_at hl 0 rfl) ?_
                      refine wz_get (v := .int (nI k)) (T := T_Z) (N := 22) hx hb hts i_Z hown hK hP 0 0 rfl rfl rfl 2 (by decide) (hts _ kw_467) rfl rfl d_Z_run_120 ?_
                      refine wz_ge (tgt := 233) hx hb d_Z_run_123 (by decide) (by omega) (by omega) (fun hc5 => ?_) (fun hc5 => ?_)
                      · skip
                        exact hnext cv ga o ms2 ts2 hrow2 hzm (Or.inr hc5) _ _ _ hP hD hS (lv_sub hl [0, 1, 2, 3, 4, 5, 6, 7, 8] rfl)
                      · skip
                        refine lv_iload hx hb d_Z_run_126 (lv_at hl 7 rfl) ?_
                        refine lv_if_ne (tgt := 233) hx hb d_Z_run_128 (by decide) (fun hc6 => ?_) (fun hc6 => ?_)
                        · skip
                          have hga : ga = true := by
                            cases ga with
                            | false => exact absurd rfl hc6
                            | true => rfl
                          exact hnext cv ga o ms2 ts2 hrow2 hzm (Or.inl hga) _ _ _ hP hD hS (lv_sub hl [0, 1, 2, 3, 4, 5, 6, 7, 8] rfl)
                        · skip
                          have hga : ga = false := by
                            cases ga with
                            | true => exact absurd hc6 (by decide)
                            | false => rfl
                          subst hga
                          obtain rfl : cv = X9 i := (hzm.1 rfl).1
                          refine lv_iload hx hb d_Z_run_131 (lv_at hl 4 rfl) ?_
                          refine lv_istore (lv' := [(9, .int (nI (X9 i))), (0, .ref (az 0)), (1, .int (nI mu)), (2, .int (nI mo)), (3, .int (nI j0)), (4, .int (nI (X9 i))), (5, .int (nI i)), (6, .int (nI (len - i - 1))), (7, .int (bl_b false)), (8, .int (nI o))]) hx hb d_Z_run_133 hl (by decide) rfl (fun ls hl => ?_)
                          refine lv_iconst (v := nI 1) hx hb d_Z_run_135 (by decide) ?_
                          refine lv_istore (lv' := [(10, .int (nI 1)), (9, .int (nI (X9 i))), (0, .ref (az 0)), (1, .int (nI mu)), (2, .int (nI mo)), (3, .int (nI j0)), (4, .int (nI (X9 i))), (5, .int (nI i)), (6, .int (nI (len - i - 1))), (7, .int (bl_b false)), (8, .int (nI o))]) hx hb d_Z_run_136 hl (by decide) rfl (fun ls hl => ?_)
                          have hmv9 : ∀ (u : Nat) (gb9 : Bool) (ms4 ts4 : Nat → Int32), zr_row k (bl_mt (nI mu) od) (bl_g n 0 sg tu) (pz_dist (bl_s n k 6 sg tu od (nI mu)) gl) sa len i mv9 tm9 X9 ms4 ts4 → zr_u (bl_mt (nI mu) od o) ((fun m t => pz_dist (bl_s n k 6 sg tu od (nI mu)) gl (pz_it (bl_g n 0 sg tu m) t (X9 i)) (len - i - 1)) o) gb9 u o (ms4 i) (ts4 i) → gb9 = true ∨ bl_mt (nI mu) od o ≤ u → ∀ (H : Heap) (locs : List Loc) (ls : Array Slot), va_P D vwCl ([zo_W q az (nI 0) n k (nI mu) (nI 1) S.1.length (nI 1) len fm (lN (pz_cnt gl (pz_ends (bl_s n k 0 sg tu od (nI mu)) sa len))), zt_W q az to fo, zs_W q az sb gb, zb_W q az st1 sp1 wy1 se1, zf_W q az ms4 ts4] : wz_G).flatten H → va_D A ([zo_W q az (nI 0) n k (nI mu) (nI 1) S.1.length (nI 1) len fm (lN (pz_cnt gl (pz_ends (bl_s n k 0 sg tu od (nI mu)) sa len))), zt_W q az to fo, zs_W q az sb gb, zb_W q az st1 sp1 wy1 se1, zf_W q az ms4 ts4] : wz_G).flatten → va_S A s.heap H locs → lv_has ls 11 [(0, .ref (az 0)), (1, .int (nI mu)), (2, .int (nI mo)), (3, .int (nI j0)), (5, .int (nI i)), (6, .int (nI (len - i - 1))), (8, .int (nI o)), (4, .int (nI (X9 i))), (7, .int (bl_b gb9)), (9, .int (nI (pz_it (bl_g n 0 sg tu o) u (X9 i)))), (10, .int (nI (u + 1)))] → W p l e ({ frames := 3, cells := 0, slots := 0, locals := 72 } : Room) s m ([.ref (az 0), .int (nI mu), .int (nI mo)] : List Value).toArray below meth c H locs 0 0 (MQ below (va_Qi (po_Z_run q az th n k kn bk sz fd ln fm fw to fo sb gb st sp wy se ms ts sg tu od sa gl (nI mu) (nI mo)) (wz_At D q A) A) ([.ref (az 0), .int (nI mu), .int (nI mo)] : List Value).toArray s 0 0 A) (F0 m 213 ls []) := by
                            intro u gb9 ms4 ts4 hrow4 hzu hgb H locs ls hP hD hS hl
                            refine lv_iload hx hb d_Z_run_213 (lv_at hl 8 rfl) ?_
                            refine lv_if_eq (tgt := 223) hx hb d_Z_run_215 (by decide) (fun hc7 => ?_) (fun hc7 => ?_)
                            · skip
                              have hgf : gb9 = false := by
                                cases gb9 with
                                | true => exact absurd hc7 (by decide)
                                | false => rfl
                              subst hgf
                              refine lv_iload hx hb d_Z_run_223 (lv_at hl 7 rfl) ?_
                              refine lv_istore (lv' := [(4, .int (nI (X9 i))), (0, .ref (az 0)), (1, .int (nI mu)), (2, .int (nI mo)), (3, .int (nI j0)), (5, .int (nI i)), (6, .int (nI (len - i - 1))), (8, .int (nI o)), (7, .int (bl_b false)), (9, .int (nI (pz_it (bl_g n 0 sg tu o) u (X9 i)))), (10, .int (nI (u + 1)))]) hx hb d_Z_run_225 hl (by decide) rfl (fun ls hl => ?_)
                              refine lv_iinc (v := nI (o + 1)) (lv' := [(8, .int (nI (o + 1))), (4, .int (nI (X9 i))), (0, .ref (az 0)), (1, .int (nI mu)), (2, .int (nI mo)), (3, .int (nI j0)), (5, .int (nI i)), (6, .int (nI (len - i - 1))), (7, .int (bl_b false)), (9, .int (nI (pz_it (bl_g n 0 sg tu o) u (X9 i)))), (10, .int (nI (u + 1)))]) hx hb d_Z_run_227 hl (k := 7) rfl (nI_1 o) (by decide) rfl (fun ls hl => ?_)
                              refine lv_goto (tgt := 117) hx hb d_Z_run_230 (by decide) ?_
                              exact ih2 (o + 1) (X9 i) false ms4 ts4 (by omega) (by omega) hrow4 (zr_m_no hzm hzu (hgb.resolve_left (fun q => by cases q))) _ _ _ hP hD hS (lv_sub hl [2, 3, 4, 5, 1, 6, 7, 8, 0] rfl)
                            · skip
                              have hgf : gb9 = true := by
                                cases gb9 with
                                | false => exact absurd rfl hc7
                                | true => rfl
                              subst hgf
                              refine lv_iload hx hb d_Z_run_218 (lv_at hl 9 rfl) ?_
                              refine lv_goto (tgt := 225) hx hb d_Z_run_220 (by decide) ?_
                              refine lv_istore (lv' := [(4, .int (nI (pz_it (bl_g n 0 sg tu o) u (X9 i)))), (0, .ref (az 0)), (1, .int (nI mu)), (2, .int (nI mo)), (3, .int (nI j0)), (5, .int (nI i)), (6, .int (nI (len - i - 1))), (8, .int (nI o)), (7, .int (bl_b true)), (9, .int (nI (pz_it (bl_g n 0 sg tu o) u (X9 i)))), (10, .int (nI (u + 1)))]) hx hb d_Z_run_225 hl (by decide) rfl (fun ls hl => ?_)
                              refine lv_iinc (v := nI (o + 1)) (lv' := [(8, .int (nI (o + 1))), (4, .int (nI (pz_it (bl_g n 0 sg tu o) u (X9 i)))), (0, .ref (az 0)), (1, .int (nI mu)), (2, .int (nI mo)), (3, .int (nI j0)), (5, .int (nI i)), (6, .int (nI (len - i - 1))), (7, .int (bl_b true)), (9, .int (nI (pz_it (bl_g n 0 sg tu o) u (X9 i)))), (10, .int (nI (u + 1)))]) hx hb d_Z_run_227 hl (k := 7) rfl (nI_1 o) (by decide) rfl (fun ls hl => ?_)
                              refine lv_goto (tgt := 117) hx hb d_Z_run_230 (by decide) ?_
                              exact ih2 (o + 1) (pz_it (bl_g n 0 sg tu o) u (X9 i)) true ms4 ts4 (by omega) (by omega) hrow4 (zr_m_yes hzm hc5 hzu) _ _ _ hP hD hS (lv_sub hl [2, 3, 4, 5, 1, 6, 7, 8, 0] rfl)
                          have loop3 : ∀ (d3 : Nat) (u : Nat) (gb9 : Bool) (ms4 ts4 : Nat → Int32), u ≤ bl_mt (nI mu) od o → bl_mt (nI mu) od o + 1 ≤ u + d3 → zr_row k (bl_mt (nI mu) od) (bl_g n 0 sg tu) (pz_dist (bl_s n k 6 sg tu od (nI mu)) gl) sa len i mv9 tm9 X9 ms4 ts4 → zr_u (bl_mt (nI mu) od o) ((fun m t => pz_dist (bl_s n k 6 sg tu od (nI mu)) gl (pz_it (bl_g n 0 sg tu m) t (X9 i)) (len - i - 1)) o) gb9 u o (ms4 i) (ts4 i) → ∀ (H : Heap) (locs : List Loc) (ls : Array Slot), va_P D vwCl ([zo_W q az (nI 0) n k (nI mu) (nI 1) S.1.length (nI 1) len fm (lN (pz_cnt gl (pz_ends (bl_s n k 0 sg tu od (nI mu)) sa len))), zt_W q az to fo, zs_W q az sb gb, zb_W q az st1 sp1 wy1 se1, zf_W q az ms4 ts4] : wz_G).flatten H → va_D A ([zo_W q az (nI 0) n k (nI mu) (nI 1) S.1.length (nI 1) len fm (lN (pz_cnt gl (pz_ends (bl_s n k 0 sg tu od (nI mu)) sa len))), zt_W q az to fo, zs_W q az sb gb, zb_W q az st1 sp1 wy1 se1, zf_W q az ms4 ts4] : wz_G).flatten → va_S A s.heap H locs → lv_has ls 11 [(0, .ref (az 0)), (1, .int (nI mu)), (2, .int (nI mo)), (3, .int (nI j0)), (5, .int (nI i)), (6, .int (nI (len - i - 1))), (8, .int (nI o)), (4, .int (nI (X9 i))), (7, .int (bl_b gb9)), (9, .int (nI (pz_it (bl_g n 0 sg tu o) u (X9 i)))), (10, .int (nI (u + 1)))] → W p l e ({ frames := 3, cells := 0, slots := 0, locals := 72 } : Room) s m ([.ref (az 0), .int (nI mu), .int (nI mo)] : List Value).toArray below meth c H locs 0 0 (MQ below (va_Qi (po_Z_run q az th n k kn bk sz fd ln fm fw to fo sb gb st sp wy se ms ts sg tu od sa gl (nI mu) (nI mo)) (wz_At D q A) A) ([.ref (az 0), .int (nI mu), .int (nI mo)] : List Value).toArray s 0 0 A) (F0 m 138 ls []) := by
                            intro d3
                            induction d3 with
                            | zero =>
                              intro u gb9 ms4 ts4 hu hd3 hrow4 hzu
                              omega
                            | succ d3 ih3 =>
                              intro u gb9 ms4 ts4 hu hd3 hrow4 hzu H locs ls hP hD hS hl
                              have hmo4 := hmt o hc5
                              refine lv_iload hx hb d_Z_run_138 (lv_at hl 10 rfl) ?_
                              refine lv_aload_n hx hb d_Z_run_140 rfl (lv_at hl 0 rfl) ?_
                              refine lv_iload hx hb d_Z_run_141 (lv_at hl 6 rfl) ?_
                              refine lv_iload_n hx hb d_Z_run_143 rfl (lv_at hl 1 rfl) ?_
                              have hQ := wz_split (n := 5) (gc := [zo_W q az (nI 0) n k (nI mu) (nI 1) S.1.length (nI 1) len fm (lN (pz_cnt gl (pz_ends (bl_s n k 0 sg tu od (nI mu)) sa len))), zt_W q az to fo]) (gr := [zs_W q az sb gb, zb_W q az st1 sp1 wy1 se1, zf_W q az ms4 ts4]) [0, 1] [2, 3, 4] rfl (by decide) rfl rfl hP hD
                              refine wz_calli (va_runV (As := [.int (nI o), .int (nI mu)]) (rest := [.int (nI (u + 1))]) ⟨hx, hb, hml, hown, hts⟩ (c_Z_most l D q az (nI 0) n k (nI mu) (nI 1) S.1.length (nI 1) len fm (lN (pz_cnt gl (pz_ends (bl_s n k 0 sg tu od (nI mu)) sa len))) to fo o (nI mu) (by omega) _) (cwV 2 hts (wz_goodV kw_591 kw_593 kw_26 kw_37 kw_594) rfl rfl rfl (by decide +kernel) ⟨Nat.le_of_ble_eq_true rfl, Nat.le_of_ble_eq_true rfl⟩) (wz_preV (gi := 0) (k := 0) hN hK hQ wz_L_ok rfl rfl rfl) rfl rfl hl.1 rfl (lv_room (Nat.le_of_ble_eq_true rfl)) d_Z_run_144 ⟨Nat.le_of_ble_eq_true rfl, Nat.le_of_ble_eq_true rfl⟩) hQ hS hA (fun v_144 gx H locs hp hP hD hS => ?_)
                              obtain ⟨rfl, rfl⟩ := hp
                              obtain ⟨hP, hD⟩ := wz_ord (n := 5) (gs' := [zo_W q az (nI 0) n k (nI mu) (nI 1) S.1.length (nI 1) len fm (lN (pz_cnt gl (pz_ends (bl_s n k 0 sg tu od (nI mu)) sa len))), zt_W q az to fo, zs_W q az sb gb, zb_W q az st1 sp1 wy1 se1, zf_W q az ms4 ts4]) [0, 1, 2, 3, 4] rfl (by decide) rfl hP hD
                              refine wz_topi (y := nI (bl_mt (nI mu) od o)) (zm_mt_eq hk hok hc5) ?_
                              refine wz_gt (tgt := 213) hx hb d_Z_run_147 (by decide) (by omega) (by omega) (fun hc8 => ?_) (fun hc8 => ?_)
                              · skip
                                exact hmv9 u gb9 ms4 ts4 hrow4 hzu (Or.inr (by omega)) _ _ _ hP hD hS (lv_sub hl [0, 1, 2, 3, 4, 5, 6, 7, 8, 9, 10] rfl)
                              · skip
                                refine lv_iload hx hb d_Z_run_150 (lv_at hl 8 rfl) ?_
                                refine lv_if_ne (tgt := 213) hx hb d_Z_run_152 (by decide) (fun hc9 => ?_) (fun hc9 => ?_)
                                · skip
                                  have hgt : gb9 = true := by
                                    cases gb9 with
                                    | false => exact absurd rfl hc9
                                    | true => rfl
                                  exact hmv9 u gb9 ms4 ts4 hrow4 hzu (Or.inl hgt) _ _ _ hP hD hS (lv_sub hl [0, 1, 2, 3, 4, 5, 6, 7, 8, 9, 10] rfl)
                                · skip
                                  have hgf : gb9 = false := by
                                    cases gb9 with
                                    | true => exact absurd hc9 (by decide)
                                    | false => rfl
                                  subst hgf
                                  have hin := zk_it hk hok hinv hm hc5 (by omega) hxS
                                  refine lv_aload_n hx hb d_Z_run_155 rfl (lv_at hl 0 rfl) ?_
                                  refine lv_iload hx hb d_Z_run_156 (lv_at hl 9 rfl) ?_
                                  refine lv_iload hx hb d_Z_run_158 (lv_at hl 6 rfl) ?_
                                  refine lv_iconst (v := nI 0) hx hb d_Z_run_160 (by decide) ?_
                                  have hQ := wz_split (n := 5) (gc := [zo_W q az (nI 0) n k (nI mu) (nI 1) S.1.length (nI 1) len fm (lN (pz_cnt gl (pz_ends (bl_s n k 0 sg tu od (nI mu)) sa len))), zt_W q az to fo]) (gr := [zs_W q az sb gb, zb_W q az st1 sp1 wy1 se1, zf_W q az ms4 ts4]) [0, 1] [2, 3, 4] rfl (by decide) rfl rfl hP hD
                                  refine wz_calli (va_runV (As := [.int (nI (pz_it (bl_g n 0 sg tu o) u (X9 i))), .int (nI o), .int (nI 0)]) (rest := []) ⟨hx, hb, hml, hown, hts⟩ (c_Z_done0 l D q az (nI 0) n k (nI mu) (nI 1) S.1.length (nI 1) len fm (lN (pz_cnt gl (pz_ends (bl_s n k 0 sg tu od (nI mu)) sa len))) to fo (pz_it (bl_g n 0 sg tu o) u (X9 i)) o (sg o) (tu o) hn (by omega) (hm _ (hin u)).1 (hok o hc5).2.2.2 (hok o hc5).1 _) (cwV 3 hts (wz_goodV kw_595 kw_597 kw_27 kw_37 kw_598) rfl rfl rfl (by decide +kernel) ⟨Nat.le_of_ble_eq_true rfl, Nat.le_of_ble_eq_true rfl⟩) (wz_preV (gi := 0) (k := 0) hN hK hQ wz_L_ok rfl rfl rfl) rfl rfl hl.1 rfl (lv_room (Nat.le_of_ble_eq_true rfl)) d_Z_run_161 ⟨Nat.le_of_ble_eq_true rfl, Nat.le_of_ble_eq_true rfl⟩) hQ hS hA (fun v_161 gx H locs hp hP hD hS => ?_)
                                  obtain ⟨rfl, rfl⟩ := hp
                                  obtain ⟨hP, hD⟩ := wz_ord (n := 5) (gs' := [zo_W q az (nI 0) n k (nI mu) (nI 1) S.1.length (nI 1) len fm (lN (pz_cnt gl (pz_ends (bl_s n k 0 sg tu od (nI mu)) sa len))), zt_W q az to fo, zs_W q az sb gb, zb_W q az st1 sp1 wy1 se1, zf_W q az ms4 ts4]) [0, 1, 2, 3, 4] rfl (by decide) rfl hP hD
                                  refine wz_topi (y := nI (pz_it (bl_g n 0 sg tu o) (u + 1) (X9 i))) (congrArg nI (congrFun (zm_g0 (by omega)).symm _)) ?_
                                  refine lv_istore (lv' := [(9, .int (nI (pz_it (bl_g n 0 sg tu o) (u + 1) (X9 i)))), (0, .ref (az 0)), (1, .int (nI mu)), (2, .int (nI mo)), (3, .int (nI j0)), (5, .int (nI i)), (6, .int (nI (len - i - 1))), (8, .int (nI o)), (4, .int (nI (X9 i))), (7, .int (bl_b false)), (10, .int (nI (u + 1)))]) hx hb d_Z_run_164 hl (by decide) rfl (fun ls hl => ?_)
                                  refine lv_aload_n hx hb d_Z_run_166 rfl (lv_at hl 1 rfl) ?_
                                  refine wz_get (v := .ref (az 6)) (T := T_Z) (N := 22) hx hb hts i_Z hown hK hP 0 0 rfl rfl rfl 11 (by decide) (hts _ kw_476) rfl rfl d_Z_run_167 ?_
                                  refine lv_aload_n hx hb d_Z_run_170 rfl (lv_at hl 1 rfl) ?_
                                  refine lv_iload hx hb d_Z_run_171 (lv_at hl 0 rfl) ?_
                                  have hQ := wz_split (n := 5) (gc := [zo_W q az (nI 0) n k (nI mu) (nI 1) S.1.length (nI 1) len fm (lN (pz_cnt gl (pz_ends (bl_s n k 0 sg tu od (nI mu)) sa len))), zb_W q az st1 sp1 wy1 se1]) (gr := [zt_W q az to fo, zs_W q az sb gb, zf_W q az ms4 ts4]) [0, 3] [1, 2, 4] rfl (by decide) rfl rfl hP hD
                                  refine wz_calli (va_runV (As := [.int (nI (pz_it (bl_g n 0 sg tu o) (u + 1) (X9 i)))]) (rest := [.ref (az 6)]) ⟨hx, hb, hml, hown, hts⟩ (c_Z_numberOf l D q az (nI 0) n k (nI mu) (nI 1) S.1.length (nI 1) len fm (lN (pz_cnt gl (pz_ends (bl_s n k 0 sg tu od (nI mu)) sa len))) st1 sp1 wy1 se1 S.1 sf (pz_it (bl_g n 0 sg tu o) (u + 1) (X9 i)) (fun i9 x9 h9 => (hz.2.1 i9 x9 h9).1) hse hht hlen (pz_lt31 hn (hm _ (hin (u + 1))).1) (fun x9 h9 => pz_lt31 hn (hm x9 h9).1) hz.1.1 _) (cwV 1 hts (wz_goodV kw_599 kw_601 kw_28 kw_37 kw_602) rfl rfl rfl (by decide +kernel) ⟨Nat.le_of_ble_eq_true rfl, Nat.le_of_ble_eq_true rfl⟩) (wz_preV (gi := 0) (k := 0) hN hK hQ wz_L_ok rfl rfl rfl) rfl rfl hl.1 rfl (lv_room (Nat.le_of_ble_eq_true rfl)) d_Z_run_173 ⟨Nat.le_of_ble_eq_true rfl, Nat.le_of_ble_eq_true rfl⟩) hQ hS hA (fun v_173 gx H locs hp hP hD hS => ?_)
                                  obtain ⟨rfl, hv⟩ := hp
                                  obtain ⟨j2, hj2, rfl⟩ := hv.resolve_right (fun q => q.1 (hin (u + 1)))
                                  have hj2l := (List.getElem?_eq_some_iff.mp hj2).1
                                  obtain ⟨e2, he2⟩ := pz_mem_far hz.1 (hin (u + 1))
                                  have he2l := zk_far hn harr hra hinv he2
                                  obtain ⟨hP, hD⟩ := wz_ord (n := 5) (gs' := [zo_W q az (nI 0) n k (nI mu) (nI 1) S.1.length (nI 1) len fm (lN (pz_cnt gl (pz_ends (bl_s n k 0 sg tu od (nI mu)) sa len))), zt_W q az to fo, zs_W q az sb gb, zb_W q az st1 sp1 wy1 se1, zf_W q az ms4 ts4]) [0, 2, 3, 1, 4] rfl (by decide) rfl hP hD
                                  refine wz_iald hx hb hK hP 3 1 (j := j2) rfl rfl (by omega) (by decide) d_Z_run_176 ?_
                                  refine wz_topi (y := nI e2) (zb_far hz hj2 he2) ?_
                                  refine lv_iload hx hb d_Z_run_177 (lv_at hl 6 rfl) ?_
                                  refine wz_ne (tgt := 186) hx hb d_Z_run_179 (by decide) (by omega) (by omega) (fun hcA => ?_) (fun hcA => ?_)
                                  · skip
                                    refine lv_iconst (v := nI 0) hx hb d_Z_run_186 (by decide) ?_
                                    refine lv_istore (lv' := [(7, .int (nI 0)), (9, .int (nI (pz_it (bl_g n 0 sg tu o) (u + 1) (X9 i)))), (0, .ref (az 0)), (1, .int (nI mu)), (2, .int (nI mo)), (3, .int (nI j0)), (5, .int (nI i)), (6, .int (nI (len - i - 1))), (8, .int (nI o)), (4, .int (nI (X9 i))), (10, .int (nI (u + 1)))]) hx hb d_Z_run_187 hl (by decide) rfl (fun ls hl => ?_)
                                    refine lv_aload_n hx hb d_Z_run_189 rfl (lv_at hl 2 rfl) ?_
                                    refine wz_get (v := .ref (az 9)) (T := T_Z) (N := 22) hx hb hts i_Z hown hK hP 0 0 rfl rfl rfl 18 (by decide) (hts _ kw_482) rfl rfl d_Z_run_190 ?_
                                    refine lv_iload hx hb d_Z_run_193 (lv_at hl 6 rfl) ?_
                                    refine lv_iload hx hb d_Z_run_195 (lv_at hl 8 rfl) ?_
                                    refine wz_iast (gs' := [zo_W q az (nI 0) n k (nI mu) (nI 1) S.1.length (nI 1) len fm (lN (pz_cnt gl (pz_ends (bl_s n k 0 sg tu od (nI mu)) sa len))), zt_W q az to fo, zs_W q az sb gb, zb_W q az st1 sp1 wy1 se1, zf_W q az (upd ms4 i (nI o)) ts4]) hx hb hK hP hD hS 4 0 (j := i) rfl rfl (by omega) (by decide) d_Z_run_197 rfl (fun H locs hP hD hS => ?_)
                                    refine lv_aload_n hx hb d_Z_run_198 rfl (lv_at hl 2 rfl) ?_
                                    refine wz_get (v := .ref (az 10)) (T := T_Z) (N := 22) hx hb hts i_Z hown hK hP 0 0 rfl rfl rfl 19 (by decide) (hts _ kw_483) rfl rfl d_Z_run_199 ?_
                                    refine lv_iload hx hb d_Z_run_202 (lv_at hl 6 rfl) ?_
                                    refine lv_iload hx hb d_Z_run_204 (lv_at hl 10 rfl) ?_
                                    refine wz_iast (gs' := [zo_W q az (nI 0) n k (nI mu) (nI 1) S.1.length (nI 1) len fm (lN (pz_cnt gl (pz_ends (bl_s n k 0 sg tu od (nI mu)) sa len))), zt_W q az to fo, zs_W q az sb gb, zb_W q az st1 sp1 wy1 se1, zf_W q az (upd ms4 i (nI o)) (upd ts4 i (nI (u + 1)))]) hx hb hK hP hD hS 4 1 (j := i) rfl rfl (by omega) (by decide) d_Z_run_206 rfl (fun H locs hP hD hS => ?_)
                                    refine lv_iinc (v := nI ((u + 1) + 1)) (lv' := [(10, .int (nI ((u + 1) + 1))), (7, .int (nI 0)), (9, .int (nI (pz_it (bl_g n 0 sg tu o) (u + 1) (X9 i)))), (0, .ref (az 0)), (1, .int (nI mu)), (2, .int (nI mo)), (3, .int (nI j0)), (5, .int (nI i)), (6, .int (nI (len - i - 1))), (8, .int (nI o)), (4, .int (nI (X9 i)))]) hx hb d_Z_run_207 hl (k := 10) rfl (nI_1 (u + 1)) (by decide) rfl (fun ls hl => ?_)
                                    refine lv_goto (tgt := 138) hx hb d_Z_run_210 (by decide) ?_
                                    exact ih3 (u + 1) false (upd ms4 i (nI o)) (upd ts4 i (nI (u + 1))) (by omega) (by omega) (zr_row_upd hrow4) (zr_u_no hzu (fun q => hcA (Option.some.inj (he2.symm.trans ((zk_dist hinv).mpr q))))) _ _ _ hP hD hS (lv_sub hl [3, 4, 5, 6, 7, 8, 9, 10, 1, 2, 0] rfl)
                                  · skip
                                    have hPu := pz_exact hinv he2
                                    rw [hcA] at hPu
                                    refine lv_iconst (v := nI 1) hx hb d_Z_run_182 (by decide) ?_
                                    refine lv_goto (tgt := 187) hx hb d_Z_run_183 (by decide) ?_
                                    refine lv_istore (lv' := [(7, .int (nI 1)), (9, .int (nI (pz_it (bl_g n 0 sg tu o) (u + 1) (X9 i)))), (0, .ref (az 0)), (1, .int (nI mu)), (2, .int (nI mo)), (3, .int (nI j0)), (5, .int (nI i)), (6, .int (nI (len - i - 1))), (8, .int (nI o)), (4, .int (nI (X9 i))), (10, .int (nI (u + 1)))]) hx hb d_Z_run_187 hl (by decide) rfl (fun ls hl => ?_)
                                    refine lv_aload_n hx hb d_Z_run_189 rfl (lv_at hl 2 rfl) ?_
                                    refine wz_get (v := .ref (az 9)) (T := T_Z) (N := 22) hx hb hts i_Z hown hK hP 0 0 rfl rfl rfl 18 (by decide) (hts _ kw_482) rfl rfl d_Z_run_190 ?_
                                    refine lv_iload hx hb d_Z_run_193 (lv_at hl 6 rfl) ?_
                                    refine lv_iload hx hb d_Z_run_195 (lv_at hl 8 rfl) ?_
                                    refine wz_iast (gs' := [zo_W q az (nI 0) n k (nI mu) (nI 1) S.1.length (nI 1) len fm (lN (pz_cnt gl (pz_ends (bl_s n k 0 sg tu od (nI mu)) sa len))), zt_W q az to fo, zs_W q az sb gb, zb_W q az st1 sp1 wy1 se1, zf_W q az (upd ms4 i (nI o)) ts4]) hx hb hK hP hD hS 4 0 (j := i) rfl rfl (by omega) (by decide) d_Z_run_197 rfl (fun H locs hP hD hS => ?_)
                                    refine lv_aload_n hx hb d_Z_run_198 rfl (lv_at hl 2 rfl) ?_
                                    refine wz_get (v := .ref (az 10)) (T := T_Z) (N := 22) hx hb hts i_Z hown hK hP 0 0 rfl rfl rfl 19 (by decide) (hts _ kw_483) rfl rfl d_Z_run_199 ?_
                                    refine lv_iload hx hb d_Z_run_202 (lv_at hl 6 rfl) ?_
                                    refine lv_iload hx hb d_Z_run_204 (lv_at hl 10 rfl) ?_
                                    refine wz_iast (gs' := [zo_W q az (nI 0) n k (nI mu) (nI 1) S.1.length (nI 1) len fm (lN (pz_cnt gl (pz_ends (bl_s n k 0 sg tu od (nI mu)) sa len))), zt_W q az to fo, zs_W q az sb gb, zb_W q az st1 sp1 wy1 se1, zf_W q az (upd ms4 i (nI o)) (upd ts4 i (nI (u + 1)))]) hx hb hK hP hD hS 4 1 (j := i) rfl rfl (by omega) (by decide) d_Z_run_206 rfl (fun H locs hP hD hS => ?_)
                                    refine lv_iinc (v := nI ((u + 1) + 1)) (lv' := [(10, .int (nI ((u + 1) + 1))), (7, .int (nI 1)), (9, .int (nI (pz_it (bl_g n 0 sg tu o) (u + 1) (X9 i)))), (0, .ref (az 0)), (1, .int (nI mu)), (2, .int (nI mo)), (3, .int (nI j0)), (5, .int (nI i)), (6, .int (nI (len - i - 1))), (8, .int (nI o)), (4, .int (nI (X9 i)))]) hx hb d_Z_run_207 hl (k := 10) rfl (nI_1 (u + 1)) (by decide) rfl (fun ls hl => ?_)
                                    refine lv_goto (tgt := 138) hx hb d_Z_run_210 (by decide) ?_
                                    exact ih3 (u + 1) true (upd ms4 i (nI o)) (upd ts4 i (nI (u + 1))) (by omega) (by omega) (zr_row_upd hrow4) (by rw [pk_us, pk_us]; exact zr_u_yes hzu hc8 hPu) _ _ _ hP hD hS (lv_sub hl [3, 4, 5, 6, 7, 8, 9, 10, 1, 2, 0] rfl)
                          exact loop3 (bl_mt (nI mu) od o + 1) 0 false ms2 ts2 (by omega) (by omega) hrow2 (zr_u_0 _ _ _ _ _) _ _ _ hP hD hS (lv_sub hl [2, 3, 4, 5, 7, 8, 10, 6, 9, 1, 0] rfl)
                  exact loop2 (k + 1) 0 (X9 i) false ms1 ts1 (by omega) (by omega) hrow (zr_m_0 _ _ _ _ _ _ _) _ _ _ hP hD hS (lv_sub hl [3, 4, 5, 6, 7, 8, 2, 1, 0] rfl)
            exact loop (len + 1) 0 (fun _ => 0) (fun _ => 0) (fun _ => sa) ms ts (by omega) (by omega) (zr_row_0 _ _ _ _ _ _ _ _) (pz_dist_self _ _) (by rw [Nat.sub_zero]; exact hdg) _ _ _ hP hD hS (lv_sub hl [3, 4, 5, 2, 1, 0] rfl)
          · skip
            refine lv_iconst (v := (-1)) hx hb d_Z_run_53 (by decide) ?_
            exact wz_iret hx hb hr hlocks hK hP hD hS d_Z_run_54 (Or.inr ⟨mu, mo, S, st1, sp1, wy1, se1, hmu, rfl, hmo, rfl, ⟨hz, hinv, hm⟩, Or.inl ⟨rfl, rfl, (fun K9 hK9 => by rw [pz_dist_eq hK9 hdist]; exact hc3)⟩⟩)
      · skip
        refine lv_istore_n (lv' := [(3, .int (-1)), (0, .ref (az 0)), (1, .int (nI mu)), (2, .int (nI mo))]) hx hb d_Z_run_38 rfl hl (by decide) rfl (fun ls hl => ?_)
        refine lv_iload_n hx hb d_Z_run_39 rfl (lv_at hl 0 rfl) ?_
        refine lv_if_lt (tgt := 53) hx hb d_Z_run_40 (by decide) (fun hc2 => ?_) (fun hc2 => ?_)
        · skip
          refine lv_iconst (v := (-1)) hx hb d_Z_run_53 (by decide) ?_
          exact wz_iret hx hb hr hlocks hK hP hD hS d_Z_run_54 (Or.inr ⟨mu, mo, S, st1, sp1, wy1, se1, hmu, rfl, hmo, rfl, ⟨hz, hinv, hm⟩, Or.inl ⟨rfl, rfl, (fun K9 hK9 => absurd (pz_far_mem hz.1 ((zk_dist hinv).mpr (pz_dist_rev hrv hK9))) hno)⟩⟩)
        · skip
          exact absurd (by decide) hc2
    · skip
      refine lv_bipush (v := (-2)) hx hb d_Z_run_16 (by decide) ?_
      exact wz_iret hx hb hr hlocks hK hP hD hS d_Z_run_18 (Or.inl ⟨Or.inr (by
      have h1 : ¬ (0 : Int32) ≤ y := hc1
      rw [Int32.le_iff_toInt_le] at h1
      rw [Int32.lt_iff_toInt_lt]
      omega), rfl, rfl⟩)
