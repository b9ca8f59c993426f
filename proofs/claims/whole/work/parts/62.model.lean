theorem d_Z_spreadOut_0 : decode b_Z_spreadOut 0 = .ok (.aload_n 0, 1) := by decide +kernel
theorem d_Z_spreadOut_1 : decode b_Z_spreadOut 1 = .ok (.getfield 22, 3) := by decide +kernel
theorem d_Z_spreadOut_4 : decode b_Z_spreadOut 4 = .ok (.iload_n 1, 1) := by decide +kernel
theorem d_Z_spreadOut_5 : decode b_Z_spreadOut 5 = .ok (.if_icmp .ne 12, 3) := by decide +kernel
theorem d_Z_spreadOut_8 : decode b_Z_spreadOut 8 = .ok (.aload_n 0, 1) := by decide +kernel
theorem d_Z_spreadOut_9 : decode b_Z_spreadOut 9 = .ok (.getfield 90, 3) := by decide +kernel
theorem d_Z_spreadOut_12 : decode b_Z_spreadOut 12 = .ok (.iload_n 2, 1) := by decide +kernel
theorem d_Z_spreadOut_13 : decode b_Z_spreadOut 13 = .ok (.if_icmp .ne 4, 3) := by decide +kernel
theorem d_Z_spreadOut_16 : decode b_Z_spreadOut 16 = .ok (.return_, 1) := by decide +kernel
theorem d_Z_spreadOut_17 : decode b_Z_spreadOut 17 = .ok (.aload_n 0, 1) := by decide +kernel
theorem d_Z_spreadOut_18 : decode b_Z_spreadOut 18 = .ok (.iload_n 1, 1) := by decide +kernel
theorem d_Z_spreadOut_19 : decode b_Z_spreadOut 19 = .ok (.putfield 22, 3) := by decide +kernel
theorem d_Z_spreadOut_22 : decode b_Z_spreadOut 22 = .ok (.aload_n 0, 1) := by decide +kernel
theorem d_Z_spreadOut_23 : decode b_Z_spreadOut 23 = .ok (.iload_n 2, 1) := by decide +kernel
theorem d_Z_spreadOut_24 : decode b_Z_spreadOut 24 = .ok (.putfield 90, 3) := by decide +kernel
theorem d_Z_spreadOut_27 : decode b_Z_spreadOut 27 = .ok (.aload_n 0, 1) := by decide +kernel
theorem d_Z_spreadOut_28 : decode b_Z_spreadOut 28 = .ok (.iconst 0, 1) := by decide +kernel
theorem d_Z_spreadOut_29 : decode b_Z_spreadOut 29 = .ok (.putfield 87, 3) := by decide +kernel
theorem d_Z_spreadOut_32 : decode b_Z_spreadOut 32 = .ok (.iconst 0, 1) := by decide +kernel
theorem d_Z_spreadOut_33 : decode b_Z_spreadOut 33 = .ok (.istore_n 3, 1) := by decide +kernel
theorem d_Z_spreadOut_34 : decode b_Z_spreadOut 34 = .ok (.iload_n 3, 1) := by decide +kernel
theorem d_Z_spreadOut_35 : decode b_Z_spreadOut 35 = .ok (.ldc 37, 2) := by decide +kernel
theorem d_Z_spreadOut_37 : decode b_Z_spreadOut 37 = .ok (.if_icmp .ge 16, 3) := by decide +kernel
theorem d_Z_spreadOut_40 : decode b_Z_spreadOut 40 = .ok (.aload_n 0, 1) := by decide +kernel
theorem d_Z_spreadOut_41 : decode b_Z_spreadOut 41 = .ok (.getfield 38, 3) := by decide +kernel
theorem d_Z_spreadOut_44 : decode b_Z_spreadOut 44 = .ok (.iload_n 3, 1) := by decide +kernel
theorem d_Z_spreadOut_45 : decode b_Z_spreadOut 45 = .ok (.iconst 0, 1) := by decide +kernel
theorem d_Z_spreadOut_46 : decode b_Z_spreadOut 46 = .ok (.iastore, 1) := by decide +kernel
theorem d_Z_spreadOut_47 : decode b_Z_spreadOut 47 = .ok (.iinc 3 1, 3) := by decide +kernel
theorem d_Z_spreadOut_50 : decode b_Z_spreadOut 50 = .ok (.goto (-16), 3) := by decide +kernel
theorem d_Z_spreadOut_53 : decode b_Z_spreadOut 53 = .ok (.aload_n 0, 1) := by decide +kernel
theorem d_Z_spreadOut_54 : decode b_Z_spreadOut 54 = .ok (.getfield 33, 3) := by decide +kernel
theorem d_Z_spreadOut_57 : decode b_Z_spreadOut 57 = .ok (.aload_n 0, 1) := by decide +kernel
theorem d_Z_spreadOut_58 : decode b_Z_spreadOut 58 = .ok (.iload_n 2, 1) := by decide +kernel
theorem d_Z_spreadOut_59 : decode b_Z_spreadOut 59 = .ok (.ifCond .eq 10, 3) := by decide +kernel
theorem d_Z_spreadOut_62 : decode b_Z_spreadOut 62 = .ok (.aload_n 0, 1) := by decide +kernel
theorem d_Z_spreadOut_63 : decode b_Z_spreadOut 63 = .ok (.invokevirtual 93, 3) := by decide +kernel
theorem d_Z_spreadOut_66 : decode b_Z_spreadOut 66 = .ok (.goto 7, 3) := by decide +kernel
theorem d_Z_spreadOut_69 : decode b_Z_spreadOut 69 = .ok (.aload_n 0, 1) := by decide +kernel
theorem d_Z_spreadOut_70 : decode b_Z_spreadOut 70 = .ok (.invokevirtual 97, 3) := by decide +kernel
theorem d_Z_spreadOut_73 : decode b_Z_spreadOut 73 = .ok (.iconst 0, 1) := by decide +kernel
theorem d_Z_spreadOut_74 : decode b_Z_spreadOut 74 = .ok (.invokevirtual 100, 3) := by decide +kernel
theorem d_Z_spreadOut_77 : decode b_Z_spreadOut 77 = .ok (.lconst 1, 1) := by decide +kernel
theorem d_Z_spreadOut_78 : decode b_Z_spreadOut 78 = .ok (.lastore, 1) := by decide +kernel
theorem d_Z_spreadOut_79 : decode b_Z_spreadOut 79 = .ok (.iconst 0, 1) := by decide +kernel
theorem d_Z_spreadOut_80 : decode b_Z_spreadOut 80 = .ok (.istore_n 3, 1) := by decide +kernel
theorem d_Z_spreadOut_81 : decode b_Z_spreadOut 81 = .ok (.iload_n 3, 1) := by decide +kernel
theorem d_Z_spreadOut_82 : decode b_Z_spreadOut 82 = .ok (.aload_n 0, 1) := by decide +kernel
theorem d_Z_spreadOut_83 : decode b_Z_spreadOut 83 = .ok (.getfield 87, 3) := by decide +kernel
theorem d_Z_spreadOut_86 : decode b_Z_spreadOut 86 = .ok (.if_icmp .ge 117, 3) := by decide +kernel
theorem d_Z_spreadOut_89 : decode b_Z_spreadOut 89 = .ok (.iconst 0, 1) := by decide +kernel
theorem d_Z_spreadOut_90 : decode b_Z_spreadOut 90 = .ok (.istore 4, 2) := by decide +kernel
theorem d_Z_spreadOut_92 : decode b_Z_spreadOut 92 = .ok (.iload 4, 2) := by decide +kernel
theorem d_Z_spreadOut_94 : decode b_Z_spreadOut 94 = .ok (.aload_n 0, 1) := by decide +kernel
theorem d_Z_spreadOut_95 : decode b_Z_spreadOut 95 = .ok (.getfield 62, 3) := by decide +kernel
theorem d_Z_spreadOut_98 : decode b_Z_spreadOut 98 = .ok (.if_icmp .ge 99, 3) := by decide +kernel
theorem d_Z_spreadOut_101 : decode b_Z_spreadOut 101 = .ok (.aload_n 0, 1) := by decide +kernel
theorem d_Z_spreadOut_102 : decode b_Z_spreadOut 102 = .ok (.getfield 27, 3) := by decide +kernel
theorem d_Z_spreadOut_105 : decode b_Z_spreadOut 105 = .ok (.iload_n 3, 1) := by decide +kernel
theorem d_Z_spreadOut_106 : decode b_Z_spreadOut 106 = .ok (.iaload, 1) := by decide +kernel
theorem d_Z_spreadOut_107 : decode b_Z_spreadOut 107 = .ok (.istore 5, 2) := by decide +kernel
theorem d_Z_spreadOut_109 : decode b_Z_spreadOut 109 = .ok (.iconst 0, 1) := by decide +kernel
theorem d_Z_spreadOut_110 : decode b_Z_spreadOut 110 = .ok (.istore 6, 2) := by decide +kernel
theorem d_Z_spreadOut_112 : decode b_Z_spreadOut 112 = .ok (.iload 6, 2) := by decide +kernel
theorem d_Z_spreadOut_114 : decode b_Z_spreadOut 114 = .ok (.aload_n 0, 1) := by decide +kernel
theorem d_Z_spreadOut_115 : decode b_Z_spreadOut 115 = .ok (.iload 4, 2) := by decide +kernel
theorem d_Z_spreadOut_117 : decode b_Z_spreadOut 117 = .ok (.iload_n 1, 1) := by decide +kernel
theorem d_Z_spreadOut_118 : decode b_Z_spreadOut 118 = .ok (.invokevirtual 104, 3) := by decide +kernel
theorem d_Z_spreadOut_121 : decode b_Z_spreadOut 121 = .ok (.if_icmp .ge 70, 3) := by decide +kernel
theorem d_Z_spreadOut_124 : decode b_Z_spreadOut 124 = .ok (.aload_n 0, 1) := by decide +kernel
theorem d_Z_spreadOut_125 : decode b_Z_spreadOut 125 = .ok (.iload 5, 2) := by decide +kernel
theorem d_Z_spreadOut_127 : decode b_Z_spreadOut 127 = .ok (.iload 4, 2) := by decide +kernel
theorem d_Z_spreadOut_129 : decode b_Z_spreadOut 129 = .ok (.iload_n 2, 1) := by decide +kernel
theorem d_Z_spreadOut_130 : decode b_Z_spreadOut 130 = .ok (.invokevirtual 107, 3) := by decide +kernel
theorem d_Z_spreadOut_133 : decode b_Z_spreadOut 133 = .ok (.istore 5, 2) := by decide +kernel
theorem d_Z_spreadOut_135 : decode b_Z_spreadOut 135 = .ok (.aload_n 0, 1) := by decide +kernel
theorem d_Z_spreadOut_136 : decode b_Z_spreadOut 136 = .ok (.iload 5, 2) := by decide +kernel
theorem d_Z_spreadOut_138 : decode b_Z_spreadOut 138 = .ok (.aload_n 0, 1) := by decide +kernel
theorem d_Z_spreadOut_139 : decode b_Z_spreadOut 139 = .ok (.getfield 30, 3) := by decide +kernel
theorem d_Z_spreadOut_142 : decode b_Z_spreadOut 142 = .ok (.iload_n 3, 1) := by decide +kernel
theorem d_Z_spreadOut_143 : decode b_Z_spreadOut 143 = .ok (.iaload, 1) := by decide +kernel
theorem d_Z_spreadOut_144 : decode b_Z_spreadOut 144 = .ok (.iconst 1, 1) := by decide +kernel
theorem d_Z_spreadOut_145 : decode b_Z_spreadOut 145 = .ok (.iadd, 1) := by decide +kernel
theorem d_Z_spreadOut_146 : decode b_Z_spreadOut 146 = .ok (.invokevirtual 100, 3) := by decide +kernel
theorem d_Z_spreadOut_149 : decode b_Z_spreadOut 149 = .ok (.istore 7, 2) := by decide +kernel
theorem d_Z_spreadOut_151 : decode b_Z_spreadOut 151 = .ok (.aload_n 0, 1) := by decide +kernel
theorem d_Z_spreadOut_152 : decode b_Z_spreadOut 152 = .ok (.getfield 30, 3) := by decide +kernel
theorem d_Z_spreadOut_155 : decode b_Z_spreadOut 155 = .ok (.iload 7, 2) := by decide +kernel
theorem d_Z_spreadOut_157 : decode b_Z_spreadOut 157 = .ok (.iaload, 1) := by decide +kernel
theorem d_Z_spreadOut_158 : decode b_Z_spreadOut 158 = .ok (.aload_n 0, 1) := by decide +kernel
theorem d_Z_spreadOut_159 : decode b_Z_spreadOut 159 = .ok (.getfield 30, 3) := by decide +kernel
theorem d_Z_spreadOut_162 : decode b_Z_spreadOut 162 = .ok (.iload_n 3, 1) := by decide +kernel
theorem d_Z_spreadOut_163 : decode b_Z_spreadOut 163 = .ok (.iaload, 1) := by decide +kernel
theorem d_Z_spreadOut_164 : decode b_Z_spreadOut 164 = .ok (.iconst 1, 1) := by decide +kernel
theorem d_Z_spreadOut_165 : decode b_Z_spreadOut 165 = .ok (.iadd, 1) := by decide +kernel
theorem d_Z_spreadOut_166 : decode b_Z_spreadOut 166 = .ok (.if_icmp .ne 19, 3) := by decide +kernel
theorem d_Z_spreadOut_169 : decode b_Z_spreadOut 169 = .ok (.aload_n 0, 1) := by decide +kernel
theorem d_Z_spreadOut_170 : decode b_Z_spreadOut 170 = .ok (.getfield 33, 3) := by decide +kernel
theorem d_Z_spreadOut_173 : decode b_Z_spreadOut 173 = .ok (.iload 7, 2) := by decide +kernel
theorem d_Z_spreadOut_175 : decode b_Z_spreadOut 175 = .ok (.dup2, 1) := by decide +kernel
theorem d_Z_spreadOut_176 : decode b_Z_spreadOut 176 = .ok (.laload, 1) := by decide +kernel
theorem d_Z_spreadOut_177 : decode b_Z_spreadOut 177 = .ok (.aload_n 0, 1) := by decide +kernel
theorem d_Z_spreadOut_178 : decode b_Z_spreadOut 178 = .ok (.getfield 33, 3) := by decide +kernel
theorem d_Z_spreadOut_181 : decode b_Z_spreadOut 181 = .ok (.iload_n 3, 1) := by decide +kernel
theorem d_Z_spreadOut_182 : decode b_Z_spreadOut 182 = .ok (.laload, 1) := by decide +kernel
theorem d_Z_spreadOut_183 : decode b_Z_spreadOut 183 = .ok (.ladd, 1) := by decide +kernel
theorem d_Z_spreadOut_184 : decode b_Z_spreadOut 184 = .ok (.lastore, 1) := by decide +kernel
theorem d_Z_spreadOut_185 : decode b_Z_spreadOut 185 = .ok (.iinc 6 1, 3) := by decide +kernel
theorem d_Z_spreadOut_188 : decode b_Z_spreadOut 188 = .ok (.goto (-76), 3) := by decide +kernel
theorem d_Z_spreadOut_191 : decode b_Z_spreadOut 191 = .ok (.iinc 4 1, 3) := by decide +kernel
theorem d_Z_spreadOut_194 : decode b_Z_spreadOut 194 = .ok (.goto (-102), 3) := by decide +kernel
theorem d_Z_spreadOut_197 : decode b_Z_spreadOut 197 = .ok (.iinc 3 1, 3) := by decide +kernel
theorem d_Z_spreadOut_200 : decode b_Z_spreadOut 200 = .ok (.goto (-119), 3) := by decide +kernel
theorem d_Z_spreadOut_203 : decode b_Z_spreadOut 203 = .ok (.return_, 1) := by decide +kernel
theorem kw_22 : (Cond.selects "TwoEndSearchModel" ⟨"TwoEndSearchModel", "codeOfGoal", "()I"⟩ ⟨"TwoEndSearchModel", "codeOfGoal", "()I"⟩ : Cond) ∈ bigW := bigW_of 22 (by decide +kernel) (by decide +kernel)
theorem kw_23 : (Cond.selects "TwoEndSearchModel" ⟨"TwoEndSearchModel", "codeOfStart", "()I"⟩ ⟨"TwoEndSearchModel", "codeOfStart", "()I"⟩ : Cond) ∈ bigW := bigW_of 23 (by decide +kernel) (by decide +kernel)
theorem kw_24 : (Cond.selects "TwoEndSearchModel" ⟨"TwoEndSearchModel", "put", "(II)I"⟩ ⟨"TwoEndSearchModel", "put", "(II)I"⟩ : Cond) ∈ bigW := bigW_of 24 (by decide +kernel) (by decide +kernel)
theorem kw_26 : (Cond.selects "TwoEndSearchModel" ⟨"TwoEndSearchModel", "most", "(II)I"⟩ ⟨"TwoEndSearchModel", "most", "(II)I"⟩ : Cond) ∈ bigW := bigW_of 26 (by decide +kernel) (by decide +kernel)
theorem kw_27 : (Cond.selects "TwoEndSearchModel" ⟨"TwoEndSearchModel", "done", "(IIZ)I"⟩ ⟨"TwoEndSearchModel", "done", "(IIZ)I"⟩ : Cond) ∈ bigW := bigW_of 27 (by decide +kernel) (by decide +kernel)
theorem kw_473 : (Cond.fieldLink "TwoEndSearchModel" 90 "TwoEndSearchModel" "isBack" "Z" : Cond) ∈ bigW := bigW_of 473 (by decide +kernel) (by decide +kernel)
theorem kw_574 : (Cond.methodLink "TwoEndSearchModel" 93 ⟨"TwoEndSearchModel", "codeOfGoal", "()I"⟩ : Cond) ∈ bigW := bigW_of 574 (by decide +kernel) (by decide +kernel)
theorem kw_576 : (Cond.instanceMethod ⟨"TwoEndSearchModel", "codeOfGoal", "()I"⟩ : Cond) ∈ bigW := bigW_of 576 (by decide +kernel) (by decide +kernel)
theorem kw_577 : (Cond.code ⟨"TwoEndSearchModel", "codeOfGoal", "()I"⟩ prog_7_method_15_code 3 (some .int) : Cond) ∈ bigW := bigW_of 577 (by decide +kernel) (by decide +kernel)
theorem kw_578 : (Cond.methodLink "TwoEndSearchModel" 97 ⟨"TwoEndSearchModel", "codeOfStart", "()I"⟩ : Cond) ∈ bigW := bigW_of 578 (by decide +kernel) (by decide +kernel)
theorem kw_580 : (Cond.instanceMethod ⟨"TwoEndSearchModel", "codeOfStart", "()I"⟩ : Cond) ∈ bigW := bigW_of 580 (by decide +kernel) (by decide +kernel)
theorem kw_581 : (Cond.code ⟨"TwoEndSearchModel", "codeOfStart", "()I"⟩ prog_7_method_14_code 3 (some .int) : Cond) ∈ bigW := bigW_of 581 (by decide +kernel) (by decide +kernel)
theorem kw_582 : (Cond.methodLink "TwoEndSearchModel" 100 ⟨"TwoEndSearchModel", "put", "(II)I"⟩ : Cond) ∈ bigW := bigW_of 582 (by decide +kernel) (by decide +kernel)
theorem kw_584 : (Cond.instanceMethod ⟨"TwoEndSearchModel", "put", "(II)I"⟩ : Cond) ∈ bigW := bigW_of 584 (by decide +kernel) (by decide +kernel)
theorem kw_585 : (Cond.code ⟨"TwoEndSearchModel", "put", "(II)I"⟩ prog_7_method_19_code 4 (some .int) : Cond) ∈ bigW := bigW_of 585 (by decide +kernel) (by decide +kernel)
theorem kw_591 : (Cond.methodLink "TwoEndSearchModel" 104 ⟨"TwoEndSearchModel", "most", "(II)I"⟩ : Cond) ∈ bigW := bigW_of 591 (by decide +kernel) (by decide +kernel)
theorem kw_593 : (Cond.instanceMethod ⟨"TwoEndSearchModel", "most", "(II)I"⟩ : Cond) ∈ bigW := bigW_of 593 (by decide +kernel) (by decide +kernel)
theorem kw_594 : (Cond.code ⟨"TwoEndSearchModel", "most", "(II)I"⟩ prog_7_method_20_code 3 (some .int) : Cond) ∈ bigW := bigW_of 594 (by decide +kernel) (by decide +kernel)
theorem kw_595 : (Cond.methodLink "TwoEndSearchModel" 107 ⟨"TwoEndSearchModel", "done", "(IIZ)I"⟩ : Cond) ∈ bigW := bigW_of 595 (by decide +kernel) (by decide +kernel)
theorem kw_597 : (Cond.instanceMethod ⟨"TwoEndSearchModel", "done", "(IIZ)I"⟩ : Cond) ∈ bigW := bigW_of 597 (by decide +kernel) (by decide +kernel)
theorem kw_598 : (Cond.code ⟨"TwoEndSearchModel", "done", "(IIZ)I"⟩ prog_7_method_16_code 7 (some .int) : Cond) ∈ bigW := bigW_of 598 (by decide +kernel) (by decide +kernel)
def po_Z_spreadOut0 (q : wz_Q) (az : Nat → Nat) (th : Int32) (n k : Nat) (kn bk : Int32) (sz : Nat) (fd : Int32) (ln : Nat) (fm : Int32) (fw : Int64) (to fo : Nat → Int32) (sb gb : Nat → Int32) (st sp : Nat → Int32) (wy : Nat → Int64) (se : Nat → Int32) (sg tu : Nat → Nat → Nat) (od : Nat → Nat) (mu sa gl : Nat) : wz_G → Prop := fun w => ∃ (S : pz_S) (st' sp' : Nat → Int32) (wy' : Nat → Int64) (se' : Nat → Int32), w = [zo_W q az th n k (nI mu) (nI 0) S.1.length fd ln fm fw, zt_W q az to fo, zs_W q az sb gb, zb_W q az st' sp' wy' se'] ∧ zk n k 0 sg tu od mu sa S st' sp' wy' se'
set_option maxHeartbeats 4000000 in
set_option maxRecDepth 100000 in
/-- how far all states lie -/
theorem c_Z_spreadOut0 (l : Launch) (D : va_G) (q : wz_Q) (az : Nat → Nat) (th : Int32) (n k : Nat) (kn bk : Int32) (sz : Nat) (fd : Int32) (ln : Nat) (fm : Int32) (fw : Int64) (to fo : Nat → Int32) (sb gb : Nat → Int32) (st sp : Nat → Int32) (wy : Nat → Int64) (se : Nat → Int32) (sg tu : Nat → Nat → Nat) (od : Nat → Nat) (mu sa gl : Nat) (hn : n ≤ 8) (hk : k ≤ 6) (hmu : mu ≤ 1) (hok : zm_ok n k to fo sg tu od) (hsa : zs_ok n sb sa) (hgl : zs_ok n gb gl) (hkn : kn = nI mu → bk = nI 0 → ∃ S, sz = S.1.length ∧ zk n k 0 sg tu od mu sa S st sp wy se) : wz_Mv l y_Z_spreadOut ws_Z_spreadOut ({ frames := 2, cells := 0, slots := 0, locals := 45 } : Room) D q ([.ref (az 0), .int (nI mu), .int (nI 0)] : List Value) [zo_W q az th n k kn bk sz fd ln fm fw, zt_W q az to fo, zs_W q az sb gb, zb_W q az st sp wy se] (po_Z_spreadOut0 q az th n k kn bk sz fd ln fm fw to fo sb gb st sp wy se sg tu od mu sa gl) 0 0 := by
  intro sz9
  refine wz_enter (cc := b_Z_spreadOut) (maxL := 8) (ret := none) (Qc := fun A => (va_Qv (po_Z_spreadOut0 q az th n k kn bk sz fd ln fm fw to fo sb gb st sp wy se sg tu od mu sa gl) (wz_At D q A) A)) (by decide) (Nat.le_of_ble_eq_true rfl) ?_
  intro p e s m below meth c A ls C hP hD hS hl
  obtain ⟨hx, hb, hr, hml, hlocks, hown, hts, hN, hK, hA, hnm⟩ := C
  have hown : s.vm.findClass "TwoEndSearchModel" = some m.cls := hown
  have hl : lv_has ls 8 [(0, .ref (az 0)), (1, .int (nI mu)), (2, .int (nI 0))] := hl
  have hra : pz_arr n sa sa := pz_arr_self hsa.1
  have hmv := zm_mv hk hok
  have harr := bl_s_arr (me := nI mu) (a0 := sa) hmv hk (fw := 0) (by decide)
  have hmt : ∀ o, o < k → bl_mt (nI mu) od o ≤ 14 := fun o ho => bl_mt_le hmv ho
  have hwork : ∀ (H : Heap) (locs : List Loc) (ls : Array Slot), va_P D vwCl ([zo_W q az th n k kn bk sz fd ln fm fw, zt_W q az to fo, zs_W q az sb gb, zb_W q az st sp wy se] : wz_G).flatten H → va_D A ([zo_W q az th n k kn bk sz fd ln fm fw, zt_W q az to fo, zs_W q az sb gb, zb_W q az st sp wy se] : wz_G).flatten → va_S A s.heap H locs → lv_has ls 8 [(0, .ref (az 0)), (1, .int (nI mu)), (2, .int (nI 0))] → W p l e ({ frames := 2, cells := 0, slots := 0, locals := 45 } : Room) s m ([.ref (az 0), .int (nI mu), .int (nI 0)] : List Value).toArray below meth c H locs 0 0 (MQ below (va_Qv (po_Z_spreadOut0 q az th n k kn bk sz fd ln fm fw to fo sb gb st sp wy se sg tu od mu sa gl) (wz_At D q A) A) ([.ref (az 0), .int (nI mu), .int (nI 0)] : List Value).toArray s 0 0 A) (F0 m 17 ls []) := by
    intro   H locs ls hP hD hS hl
    refine lv_aload_n hx hb d_Z_spreadOut_17 rfl (lv_at hl 0 rfl) ?_
    refine lv_iload_n hx hb d_Z_spreadOut_18 rfl (lv_at hl 1 rfl) ?_
    refine wz_put (gs' := [zo_W q az th n k (nI mu) bk sz fd ln fm fw, zt_W q az to fo, zs_W q az sb gb, zb_W q az st sp wy se]) (v := .int (nI mu)) (T := T_Z) (N := 22) hx hb hts i_Z t_Z t_Z_ok n_Z hown hK hP hD hS 0 0 rfl rfl rfl 7 (by decide) (hts _ kw_472) rfl rfl (ty := t_Z 7) (by decide +kernel) rfl rfl (Nat.le_of_ble_eq_true rfl) d_Z_spreadOut_19 rfl (fun H locs hP hD hS => ?_)
    refine lv_aload_n hx hb d_Z_spreadOut_22 rfl (lv_at hl 0 rfl) ?_
    refine lv_iload_n hx hb d_Z_spreadOut_23 rfl (lv_at hl 2 rfl) ?_
    refine wz_put (gs' := [zo_W q az th n k (nI mu) (nI 0) sz fd ln fm fw, zt_W q az to fo, zs_W q az sb gb, zb_W q az st sp wy se]) (v := .int (nI 0)) (T := T_Z) (N := 22) hx hb hts i_Z t_Z t_Z_ok n_Z hown hK hP hD hS 0 0 rfl rfl rfl 8 (by decide) (hts _ kw_473) rfl rfl (ty := t_Z 8) (by decide +kernel) rfl rfl (Nat.le_of_ble_eq_true rfl) d_Z_spreadOut_24 rfl (fun H locs hP hD hS => ?_)
    refine lv_aload_n hx hb d_Z_spreadOut_27 rfl (lv_at hl 0 rfl) ?_
    refine lv_iconst (v := nI 0) hx hb d_Z_spreadOut_28 (by decide) ?_
    refine wz_put (gs' := [zo_W q az th n k (nI mu) (nI 0) 0 fd ln fm fw, zt_W q az to fo, zs_W q az sb gb, zb_W q az st sp wy se]) (v := .int (nI 0)) (T := T_Z) (N := 22) hx hb hts i_Z t_Z t_Z_ok n_Z hown hK hP hD hS 0 0 rfl rfl rfl 9 (by decide) (hts _ kw_474) rfl rfl (ty := t_Z 9) (by decide +kernel) rfl rfl (Nat.le_of_ble_eq_true rfl) d_Z_spreadOut_29 rfl (fun H locs hP hD hS => ?_)
    refine lv_iconst (v := nI 0) hx hb d_Z_spreadOut_32 (by decide) ?_
    refine lv_istore_n (lv' := [(3, .int (nI 0)), (0, .ref (az 0)), (1, .int (nI mu)), (2, .int (nI 0))]) hx hb d_Z_spreadOut_33 rfl hl (by decide) rfl (fun ls hl => ?_)
    have loop1 : ∀ (d : Nat) (i : Nat) (se1 : Nat → Int32), i ≤ 65536 → 65537 ≤ i + d → (∀ j, j < i → se1 j = nI 0) → ∀ (H : Heap) (locs : List Loc) (ls : Array Slot), va_P D vwCl ([zo_W q az th n k (nI mu) (nI 0) 0 fd ln fm fw, zt_W q az to fo, zs_W q az sb gb, zb_W q az st sp wy se1] : wz_G).flatten H → va_D A ([zo_W q az th n k (nI mu) (nI 0) 0 fd ln fm fw, zt_W q az to fo, zs_W q az sb gb, zb_W q az st sp wy se1] : wz_G).flatten → va_S A s.heap H locs → lv_has ls 8 [(0, .ref (az 0)), (1, .int (nI mu)), (2, .int (nI 0)), (3, .int (nI i))] → W p l e ({ frames := 2, cells := 0, slots := 0, locals := 45 } : Room) s m ([.ref (az 0), .int (nI mu), .int (nI 0)] : List Value).toArray below meth c H locs 0 0 (MQ below (va_Qv (po_Z_spreadOut0 q az th n k kn bk sz fd ln fm fw to fo sb gb st sp wy se sg tu od mu sa gl) (wz_At D q A) A) ([.ref (az 0), .int (nI mu), .int (nI 0)] : List Value).toArray s 0 0 A) (F0 m 34 ls []) := by
      intro d
      induction d with
      | zero =>
        intro i se1 hi hd hz1
        omega
      | succ d ih =>
        intro i se1 hi hd hz1 H locs ls hP hD hS hl
        refine lv_iload_n hx hb d_Z_spreadOut_34 rfl (lv_at hl 3 rfl) ?_
        refine lv_ldc (v := nI 65536) hx hb hown (hts _ kw_456) d_Z_spreadOut_35 ?_
        refine wz_ge (tgt := 53) hx hb d_Z_spreadOut_37 (by decide) (by omega) (by omega) (fun hc => ?_) (fun hc => ?_)
        · skip
          have hi6 : i = 65536 := by omega
          subst hi6
          refine lv_aload_n hx hb d_Z_spreadOut_53 rfl (lv_at hl 0 rfl) ?_
          refine wz_get (v := .ref (az 7)) (T := T_Z) (N := 22) hx hb hts i_Z hown hK hP 0 0 rfl rfl rfl 12 (by decide) (hts _ kw_477) rfl rfl d_Z_spreadOut_54 ?_
          refine lv_aload_n hx hb d_Z_spreadOut_57 rfl (lv_at hl 0 rfl) ?_
          refine lv_iload_n hx hb d_Z_spreadOut_58 rfl (lv_at hl 2 rfl) ?_
          refine lv_if_eq (tgt := 69) hx hb d_Z_spreadOut_59 (by decide) (fun hc2 => ?_) (fun hc2 => ?_)
          · skip
            refine lv_aload_n hx hb d_Z_spreadOut_69 rfl (lv_at hl 0 rfl) ?_
            have hQ := wz_split (n := 4) (gc := [zo_W q az th n k (nI mu) (nI 0) 0 fd ln fm fw, zs_W q az sb gb]) (gr := [zt_W q az to fo, zb_W q az st sp wy se1]) [0, 2] [1, 3] rfl (by decide) rfl rfl hP hD
            refine wz_calli (va_runV (As := []) (rest := [.ref (az 0), .ref (az 7)]) ⟨hx, hb, hml, hown, hts⟩ (c_Z_codeOfStart l D q az th n k (nI mu) (nI 0) 0 fd ln fm fw sb gb sa hn hsa _) (cwV 0 hts (wz_goodV kw_578 kw_580 kw_23 kw_37 kw_581) rfl rfl rfl (by decide +kernel) ⟨Nat.le_of_ble_eq_true rfl, Nat.le_of_ble_eq_true rfl⟩) (wz_preV (gi := 0) (k := 0) hN hK hQ wz_L_ok rfl rfl rfl) rfl rfl hl.1 rfl (lv_room (Nat.le_of_ble_eq_true rfl)) d_Z_spreadOut_70 ⟨Nat.le_of_ble_eq_true rfl, Nat.le_of_ble_eq_true rfl⟩) hQ hS hA (fun v_70 gx H locs hp hP hD hS => ?_)
            obtain ⟨rfl, rfl⟩ := hp
            obtain ⟨hP, hD⟩ := wz_ord (n := 4) (gs' := [zo_W q az th n k (nI mu) (nI 0) 0 fd ln fm fw, zt_W q az to fo, zs_W q az sb gb, zb_W q az st sp wy se1]) [0, 2, 1, 3] rfl (by decide) rfl hP hD
            refine lv_iconst (v := nI 0) hx hb d_Z_spreadOut_73 (by decide) ?_
            have hQ := wz_split (n := 4) (gc := [zo_W q az th n k (nI mu) (nI 0) 0 fd ln fm fw, zb_W q az st sp wy se1]) (gr := [zt_W q az to fo, zs_W q az sb gb]) [0, 3] [1, 2] rfl (by decide) rfl rfl hP hD
            refine wz_calli (va_runV (As := [.int (nI sa), .int (nI 0)]) (rest := [.ref (az 7)]) ⟨hx, hb, hml, hown, hts⟩ (c_Z_put l D q az th n k (nI mu) (nI 0) 0 fd ln fm fw st sp wy se1 zE sa 0 rfl (zb_E hz1) (by decide) (pz_lt31 hn hsa.1) (fun x9 h9 => by cases h9) (fun _ => by decide) _) (cwV 2 hts (wz_goodV kw_582 kw_584 kw_24 kw_37 kw_585) rfl rfl rfl (by decide +kernel) ⟨Nat.le_of_ble_eq_true rfl, Nat.le_of_ble_eq_true rfl⟩) (wz_preV (gi := 0) (k := 0) hN hK hQ wz_L_ok rfl rfl rfl) rfl rfl hl.1 rfl (lv_room (Nat.le_of_ble_eq_true rfl)) d_Z_spreadOut_74 ⟨Nat.le_of_ble_eq_true rfl, Nat.le_of_ble_eq_true rfl⟩) hQ hS hA (fun v_74 gx H locs hp hP hD hS => ?_)
            obtain ⟨st2, sp2, wy2, se2, j, rfl, rfl, hj, hz2⟩ := hp
            obtain ⟨rfl, hz3⟩ := zb_first hz2 hj
            obtain ⟨hP, hD⟩ := wz_ord (n := 4) (gs' := [zo_W q az th n k (nI mu) (nI 0) 1 fd ln fm fw, zt_W q az to fo, zs_W q az sb gb, zb_W q az st2 sp2 wy2 se2]) [0, 2, 3, 1] rfl (by decide) rfl hP hD
            refine lv_lconst (v := 1) hx hb d_Z_spreadOut_77 rfl ?_
            refine wz_last (gs' := [zo_W q az th n k (nI mu) (nI 0) 1 fd ln fm fw, zt_W q az to fo, zs_W q az sb gb, zb_W q az st2 sp2 (vp_updL wy2 0 1) se2]) hx hb hK hP hD hS 3 2 (j := 0) rfl rfl (by omega) (by decide) d_Z_spreadOut_78 rfl (fun H locs hP hD hS => ?_)
            refine lv_iconst (v := nI 0) hx hb d_Z_spreadOut_79 (by decide) ?_
            refine lv_istore_n (lv' := [(3, .int (nI 0)), (0, .ref (az 0)), (1, .int (nI mu)), (2, .int (nI 0))]) hx hb d_Z_spreadOut_80 rfl hl (by decide) rfl (fun ls hl => ?_)
            have hP : va_P D vwCl ([zo_W q az th n k (nI mu) (nI 0) ((pz_S0 sa).1.length) fd ln fm fw, zt_W q az to fo, zs_W q az sb gb, zb_W q az st2 sp2 (vp_updL wy2 0 1) se2] : wz_G).flatten H := hP
            have hD : va_D A ([zo_W q az th n k (nI mu) (nI 0) ((pz_S0 sa).1.length) fd ln fm fw, zt_W q az to fo, zs_W q az sb gb, zb_W q az st2 sp2 (vp_updL wy2 0 1) se2] : wz_G).flatten := hD
            have loop2 : ∀ (d2 : Nat) (i : Nat) (S1 : pz_S) (st1 sp1 : Nat → Int32) (wy1 : Nat → Int64) (se1 : Nat → Int32), i ≤ S1.1.length → 40321 ≤ i + d2 → zb_ok S1 st1 sp1 wy1 se1 → pz_inv (bl_s n k 0 sg tu od (nI mu)) sa i S1 → (∀ c, c ∈ S1.1 → pz_arr n sa c) → ∀ (H : Heap) (locs : List Loc) (ls : Array Slot), va_P D vwCl ([zo_W q az th n k (nI mu) (nI 0) S1.1.length fd ln fm fw, zt_W q az to fo, zs_W q az sb gb, zb_W q az st1 sp1 wy1 se1] : wz_G).flatten H → va_D A ([zo_W q az th n k (nI mu) (nI 0) S1.1.length fd ln fm fw, zt_W q az to fo, zs_W q az sb gb, zb_W q az st1 sp1 wy1 se1] : wz_G).flatten → va_S A s.heap H locs → lv_has ls 8 [(0, .ref (az 0)), (1, .int (nI mu)), (2, .int (nI 0)), (3, .int (nI i))] → W p l e ({ frames := 2, cells := 0, slots := 0, locals := 45 } : Room) s m ([.ref (az 0), .int (nI mu), .int (nI 0)] : List Value).toArray below meth c H locs 0 0 (MQ below (va_Qv (po_Z_spreadOut0 q az th n k kn bk sz fd ln fm fw to fo sb gb st sp wy se sg tu od mu sa gl) (wz_At D q A) A) ([.ref (az 0), .int (nI mu), .int (nI 0)] : List Value).toArray s 0 0 A) (F0 m 81 ls []) := by
              intro d2
              induction d2 with
              | zero =>
                intro i S1 st1 sp1 wy1 se1 hi hd2 hz1 hinv hm1
                have := zb_len hn hz1.1 hm1; omega
              | succ d2 ih2 =>
                intro i S1 st1 sp1 wy1 se1 hi hd2 hz1 hinv hm1 H locs ls hP hD hS hl
                have hlen := zb_len hn hz1.1 hm1
                refine lv_iload_n hx hb d_Z_spreadOut_81 rfl (lv_at hl 3 rfl) ?_
                refine lv_aload_n hx hb d_Z_spreadOut_82 rfl (lv_at hl 0 rfl) ?_
                refine wz_get (v := .int (nI S1.1.length)) (T := T_Z) (N := 22) hx hb hts i_Z hown hK hP 0 0 rfl rfl rfl 9 (by decide) (hts _ kw_474) rfl rfl d_Z_spreadOut_83 ?_
                refine wz_ge (tgt := 203) hx hb d_Z_spreadOut_86 (by decide) (by omega) (by omega) (fun hc3 => ?_) (fun hc3 => ?_)
                · skip
                  have hie : i = S1.1.length := by omega
                  subst hie
                  exact wz_vret hx hb hr hlocks hK hP hD hS d_Z_spreadOut_203 ⟨S1, st1, sp1, wy1, se1, rfl, hz1, hinv, hm1⟩
                · skip
                  obtain ⟨x, hx9⟩ : ∃ x, S1.1[i]? = some x := ⟨_, List.getElem?_eq_getElem hc3⟩
                  obtain ⟨d9, hd9⟩ := pz_mem_far hz1.1 (List.mem_of_getElem? hx9)
                  have hd4 := zk_far hn harr hra hinv hd9
                  have hxa := hm1 x (List.mem_of_getElem? hx9)
                  have hsp : zsp n sa d9 i x (S1.2.2 x) S1 := ⟨hm1, hx9, hd9, rfl, fun y e he => by have := zk_far hn harr hra hinv he; omega⟩
                  have hx24 := pz_lt31 hn hxa.1
                  refine lv_iconst (v := nI 0) hx hb d_Z_spreadOut_89 (by decide) ?_
                  refine lv_istore (lv' := [(4, .int (nI 0)), (0, .ref (az 0)), (1, .int (nI mu)), (2, .int (nI 0)), (3, .int (nI i))]) hx hb d_Z_spreadOut_90 hl (by decide) rfl (fun ls hl => ?_)
                  have loop3 : ∀ (d3 : Nat) (o : Nat) (S3 : pz_S) (st3 sp3 : Nat → Int32) (wy3 : Nat → Int64) (se3 : Nat → Int32), o ≤ k → k + 1 ≤ o + d3 → S3 = (pz_st (bl_g n 0 sg tu) (bl_mt (nI mu) od) o x).foldl (pz_vis (d9 + 1) (S1.2.2 x)) S1 → zb_ok S3 st3 sp3 wy3 se3 → zsp n sa d9 i x (S1.2.2 x) S3 → ∀ (H : Heap) (locs : List Loc) (ls : Array Slot), va_P D vwCl ([zo_W q az th n k (nI mu) (nI 0) S3.1.length fd ln fm fw, zt_W q az to fo, zs_W q az sb gb, zb_W q az st3 sp3 wy3 se3] : wz_G).flatten H → va_D A ([zo_W q az th n k (nI mu) (nI 0) S3.1.length fd ln fm fw, zt_W q az to fo, zs_W q az sb gb, zb_W q az st3 sp3 wy3 se3] : wz_G).flatten → va_S A s.heap H locs → lv_has ls 8 [(0, .ref (az 0)), (1, .int (nI mu)), (2, .int (nI 0)), (3, .int (nI i)), (4, .int (nI o))] → W p l e ({ frames := 2, cells := 0, slots := 0, locals := 45 } : Room) s m ([.ref (az 0), .int (nI mu), .int (nI 0)] : List Value).toArray below meth c H locs 0 0 (MQ below (va_Qv (po_Z_spreadOut0 q az th n k kn bk sz fd ln fm fw to fo sb gb st sp wy se sg tu od mu sa gl) (wz_At D q A) A) ([.ref (az 0), .int (nI mu), .int (nI 0)] : List Value).toArray s 0 0 A) (F0 m 92 ls []) := by
                    intro d3
                    induction d3 with
                    | zero =>
                      intro o S3 st3 sp3 wy3 se3 hok3 hd3 hS3 hz3 hsp3
                      omega
                    | succ d3 ih3 =>
                      intro o S3 st3 sp3 wy3 se3 hok3 hd3 hS3 hz3 hsp3 H locs ls hP hD hS hl
                      have hlen3 := zb_len hn hz3.1 hsp3.1
                      have hil3 := (List.getElem?_eq_some_iff.mp hsp3.2.1).1
                      refine lv_iload hx hb d_Z_spreadOut_92 (lv_at hl 4 rfl) ?_
                      refine lv_aload_n hx hb d_Z_spreadOut_94 rfl (lv_at hl 0 rfl) ?_
                      refine wz_get (v := .int (nI k)) (T := T_Z) (N := 22) hx hb hts i_Z hown hK hP 0 0 rfl rfl rfl 2 (by decide) (hts _ kw_467) rfl rfl d_Z_spreadOut_95 ?_
                      refine wz_ge (tgt := 197) hx hb d_Z_spreadOut_98 (by decide) (by omega) (by omega) (fun hc4 => ?_) (fun hc4 => ?_)
                      · skip
                        have hoe : k = o := by omega
                        subst hoe
                        have hinv3 := pz_inv_step hinv hx9 hd9
                        rw [show (bl_s n k 0 sg tu od (nI mu)) x = pz_st (bl_g n 0 sg tu) (bl_mt (nI mu) od) k x from rfl, ← hS3] at hinv3
                        refine lv_iinc (v := nI (i + 1)) (lv' := [(3, .int (nI (i + 1))), (0, .ref (az 0)), (1, .int (nI mu)), (2, .int (nI 0)), (4, .int (nI k))]) hx hb d_Z_spreadOut_197 hl (k := 3) rfl (nI_1 i) (by decide) rfl (fun ls hl => ?_)
                        refine lv_goto (tgt := 81) hx hb d_Z_spreadOut_200 (by decide) ?_
                        exact ih2 (i + 1) S3 st3 sp3 wy3 se3 (by omega) (by omega) hz3 hinv3 hsp3.1 _ _ _ hP hD hS (lv_sub hl [1, 2, 3, 0] rfl)
                      · skip
                        refine lv_aload_n hx hb d_Z_spreadOut_101 rfl (lv_at hl 0 rfl) ?_
                        refine wz_get (v := .ref (az 5)) (T := T_Z) (N := 22) hx hb hts i_Z hown hK hP 0 0 rfl rfl rfl 10 (by decide) (hts _ kw_475) rfl rfl d_Z_spreadOut_102 ?_
                        refine lv_iload_n hx hb d_Z_spreadOut_105 rfl (lv_at hl 3 rfl) ?_
                        refine wz_iald hx hb hK hP 3 0 (j := i) rfl rfl (by omega) (by decide) d_Z_spreadOut_106 ?_
                        refine wz_topi (y := nI x) (hz3.2.1 i x hsp3.2.1).1 ?_
                        refine lv_istore (lv' := [(5, .int (nI x)), (0, .ref (az 0)), (1, .int (nI mu)), (2, .int (nI 0)), (3, .int (nI i)), (4, .int (nI o))]) hx hb d_Z_spreadOut_107 hl (by decide) rfl (fun ls hl => ?_)
                        refine lv_iconst (v := nI 0) hx hb d_Z_spreadOut_109 (by decide) ?_
                        refine lv_istore (lv' := [(6, .int (nI 0)), (5, .int (nI x)), (0, .ref (az 0)), (1, .int (nI mu)), (2, .int (nI 0)), (3, .int (nI i)), (4, .int (nI o))]) hx hb d_Z_spreadOut_110 hl (by decide) rfl (fun ls hl => ?_)
                        have loop4 : ∀ (d4 : Nat) (t : Nat) (S5 : pz_S) (st5 sp5 : Nat → Int32) (wy5 : Nat → Int64) (se5 : Nat → Int32), t ≤ bl_mt (nI mu) od o → bl_mt (nI mu) od o + 1 ≤ t + d4 → S5 = (pz_tm (bl_g n 0 sg tu o) x t).foldl (pz_vis (d9 + 1) (S1.2.2 x)) S3 → zb_ok S5 st5 sp5 wy5 se5 → zsp n sa d9 i x (S1.2.2 x) S5 → pz_arr n sa (pz_it (bl_g n 0 sg tu o) t x) → ∀ (H : Heap) (locs : List Loc) (ls : Array Slot), va_P D vwCl ([zo_W q az th n k (nI mu) (nI 0) S5.1.length fd ln fm fw, zt_W q az to fo, zs_W q az sb gb, zb_W q az st5 sp5 wy5 se5] : wz_G).flatten H → va_D A ([zo_W q az th n k (nI mu) (nI 0) S5.1.length fd ln fm fw, zt_W q az to fo, zs_W q az sb gb, zb_W q az st5 sp5 wy5 se5] : wz_G).flatten → va_S A s.heap H locs → lv_has ls 8 [(0, .ref (az 0)), (1, .int (nI mu)), (2, .int (nI 0)), (3, .int (nI i)), (4, .int (nI o)), (5, .int (nI (pz_it (bl_g n 0 sg tu o) t x))), (6, .int (nI t))] → W p l e ({ frames := 2, cells := 0, slots := 0, locals := 45 } : Room) s m ([.ref (az 0), .int (nI mu), .int (nI 0)] : List Value).toArray below meth c H locs 0 0 (MQ below (va_Qv (po_Z_spreadOut0 q az th n k kn bk sz fd ln fm fw to fo sb gb st sp wy se sg tu od mu sa gl) (wz_At D q A) A) ([.ref (az 0), .int (nI mu), .int (nI 0)] : List Value).toArray s 0 0 A) (F0 m 112 ls []) := by
                          intro d4
                          induction d4 with
                          | zero =>
                            intro t S5 st5 sp5 wy5 se5 ht5 hd4 hS5 hz5 hsp5 hca
                            omega
                          | succ d4 ih4 =>
                            intro t S5 st5 sp5 wy5 se5 ht5 hd4 hS5 hz5 hsp5 hca H locs ls hP hD hS hl
                            have hlen5 := zb_len hn hz5.1 hsp5.1
                            have hil5 := (List.getElem?_eq_some_iff.mp hsp5.2.1).1
                            have hmo := hmt o hc4
                            refine lv_iload hx hb d_Z_spreadOut_112 (lv_at hl 6 rfl) ?_
                            refine lv_aload_n hx hb d_Z_spreadOut_114 rfl (lv_at hl 0 rfl) ?_
                            refine lv_iload hx hb d_Z_spreadOut_115 (lv_at hl 4 rfl) ?_
                            refine lv_iload_n hx hb d_Z_spreadOut_117 rfl (lv_at hl 1 rfl) ?_
                            have hQ := wz_split (n := 4) (gc := [zo_W q az th n k (nI mu) (nI 0) S5.1.length fd ln fm fw, zt_W q az to fo]) (gr := [zs_W q az sb gb, zb_W q az st5 sp5 wy5 se5]) [0, 1] [2, 3] rfl (by decide) rfl rfl hP hD
                            refine wz_calli (va_runV (As := [.int (nI o), .int (nI mu)]) (rest := [.int (nI t)]) ⟨hx, hb, hml, hown, hts⟩ (c_Z_most l D q az th n k (nI mu) (nI 0) S5.1.length fd ln fm fw to fo o (nI mu) (by omega) _) (cwV 2 hts (wz_goodV kw_591 kw_593 kw_26 kw_37 kw_594) rfl rfl rfl (by decide +kernel) ⟨Nat.le_of_ble_eq_true rfl, Nat.le_of_ble_eq_true rfl⟩) (wz_preV (gi := 0) (k := 0) hN hK hQ wz_L_ok rfl rfl rfl) rfl rfl hl.1 rfl (lv_room (Nat.le_of_ble_eq_true rfl)) d_Z_spreadOut_118 ⟨Nat.le_of_ble_eq_true rfl, Nat.le_of_ble_eq_true rfl⟩) hQ hS hA (fun v_118 gx H locs hp hP hD hS => ?_)
                            obtain ⟨rfl, rfl⟩ := hp
                            obtain ⟨hP, hD⟩ := wz_ord (n := 4) (gs' := [zo_W q az th n k (nI mu) (nI 0) S5.1.length fd ln fm fw, zt_W q az to fo, zs_W q az sb gb, zb_W q az st5 sp5 wy5 se5]) [0, 1, 2, 3] rfl (by decide) rfl hP hD
                            refine wz_topi (y := nI (bl_mt (nI mu) od o)) (zm_mt_eq hk hok hc4) ?_
                            refine wz_ge (tgt := 191) hx hb d_Z_spreadOut_121 (by decide) (by omega) (by omega) (fun hc5 => ?_) (fun hc5 => ?_)
                            · skip
                              have hte : t = bl_mt (nI mu) od o := by omega
                              rw [hte] at hS5
                              have hS6 := hS5.trans (hS3 ▸ pz_st_fold (g := bl_g n 0 sg tu) (mt := bl_mt (nI mu) od) (x := x) (o := o) (d := d9 + 1) (w := S1.2.2 x) (S := S1)).symm
                              refine lv_iinc (v := nI (o + 1)) (lv' := [(4, .int (nI (o + 1))), (0, .ref (az 0)), (1, .int (nI mu)), (2, .int (nI 0)), (3, .int (nI i)), (5, .int (nI (pz_it (bl_g n 0 sg tu o) t x))), (6, .int (nI t))]) hx hb d_Z_spreadOut_191 hl (k := 4) rfl (nI_1 o) (by decide) rfl (fun ls hl => ?_)
                              refine lv_goto (tgt := 92) hx hb d_Z_spreadOut_194 (by decide) ?_
                              exact ih3 (o + 1) S5 st5 sp5 wy5 se5 (by omega) (by omega) hS6 hz5 hsp5 _ _ _ hP hD hS (lv_sub hl [1, 2, 3, 4, 0] rfl)
                            · skip
                              refine lv_aload_n hx hb d_Z_spreadOut_124 rfl (lv_at hl 0 rfl) ?_
                              refine lv_iload hx hb d_Z_spreadOut_125 (lv_at hl 5 rfl) ?_
                              refine lv_iload hx hb d_Z_spreadOut_127 (lv_at hl 4 rfl) ?_
                              refine lv_iload_n hx hb d_Z_spreadOut_129 rfl (lv_at hl 2 rfl) ?_
                              have hQ := wz_split (n := 4) (gc := [zo_W q az th n k (nI mu) (nI 0) S5.1.length fd ln fm fw, zt_W q az to fo]) (gr := [zs_W q az sb gb, zb_W q az st5 sp5 wy5 se5]) [0, 1] [2, 3] rfl (by decide) rfl rfl hP hD
                              refine wz_calli (va_runV (As := [.int (nI (pz_it (bl_g n 0 sg tu o) t x)), .int (nI o), .int (nI 0)]) (rest := []) ⟨hx, hb, hml, hown, hts⟩ (c_Z_done0 l D q az th n k (nI mu) (nI 0) S5.1.length fd ln fm fw to fo (pz_it (bl_g n 0 sg tu o) t x) o (sg o) (tu o) hn (by omega) hca.1 (hok o hc4).2.2.2 (hok o hc4).1 _) (cwV 3 hts (wz_goodV kw_595 kw_597 kw_27 kw_37 kw_598) rfl rfl rfl (by decide +kernel) ⟨Nat.le_of_ble_eq_true rfl, Nat.le_of_ble_eq_true rfl⟩) (wz_preV (gi := 0) (k := 0) hN hK hQ wz_L_ok rfl rfl rfl) rfl rfl hl.1 rfl (lv_room (Nat.le_of_ble_eq_true rfl)) d_Z_spreadOut_130 ⟨Nat.le_of_ble_eq_true rfl, Nat.le_of_ble_eq_true rfl⟩) hQ hS hA (fun v_130 gx H locs hp hP hD hS => ?_)
                              obtain ⟨rfl, rfl⟩ := hp
                              obtain ⟨hP, hD⟩ := wz_ord (n := 4) (gs' := [zo_W q az th n k (nI mu) (nI 0) S5.1.length fd ln fm fw, zt_W q az to fo, zs_W q az sb gb, zb_W q az st5 sp5 wy5 se5]) [0, 1, 2, 3] rfl (by decide) rfl hP hD
                              refine wz_topi (y := nI (pz_it (bl_g n 0 sg tu o) (t + 1) x)) (congrArg nI (congrFun (zm_g0 (by omega)).symm _)) ?_
                              have hca2 : pz_arr n sa (pz_it (bl_g n 0 sg tu o) (t + 1) x) := by
                                show pz_arr n sa (bl_g n 0 sg tu o (pz_it (bl_g n 0 sg tu o) t x))
                                rw [congrFun (zm_g0 (by omega) : bl_g n 0 sg tu o = _) (pz_it (bl_g n 0 sg tu o) t x)]
                                exact pz_arr_act (hok o hc4).1 hca
                              have hcd2 := pz_lt31 hn hca2.1
                              refine lv_istore (lv' := [(5, .int (nI (pz_it (bl_g n 0 sg tu o) (t + 1) x))), (0, .ref (az 0)), (1, .int (nI mu)), (2, .int (nI 0)), (3, .int (nI i)), (4, .int (nI o)), (6, .int (nI t))]) hx hb d_Z_spreadOut_133 hl (by decide) rfl (fun ls hl => ?_)
                              refine lv_aload_n hx hb d_Z_spreadOut_135 rfl (lv_at hl 1 rfl) ?_
                              refine lv_iload hx hb d_Z_spreadOut_136 (lv_at hl 0 rfl) ?_
                              refine lv_aload_n hx hb d_Z_spreadOut_138 rfl (lv_at hl 1 rfl) ?_
                              refine wz_get (v := .ref (az 6)) (T := T_Z) (N := 22) hx hb hts i_Z hown hK hP 0 0 rfl rfl rfl 11 (by decide) (hts _ kw_476) rfl rfl d_Z_spreadOut_139 ?_
                              refine lv_iload_n hx hb d_Z_spreadOut_142 rfl (lv_at hl 4 rfl) ?_
                              refine wz_iald hx hb hK hP 3 1 (j := i) rfl rfl (by omega) (by decide) d_Z_spreadOut_143 ?_
                              refine wz_topi (y := nI d9) (zb_far hz5 hsp5.2.1 hsp5.2.2.1) ?_
                              refine lv_iconst (v := nI 1) hx hb d_Z_spreadOut_144 (by decide) ?_
                              refine lv_iadd hx hb d_Z_spreadOut_145 ?_
                              refine wz_topi (y := nI (d9 + 1)) (nI_add d9 1) ?_
                              have hQ := wz_split (n := 4) (gc := [zo_W q az th n k (nI mu) (nI 0) S5.1.length fd ln fm fw, zb_W q az st5 sp5 wy5 se5]) (gr := [zt_W q az to fo, zs_W q az sb gb]) [0, 3] [1, 2] rfl (by decide) rfl rfl hP hD
                              refine wz_calli (va_runV (As := [.int (nI (pz_it (bl_g n 0 sg tu o) (t + 1) x)), .int (nI (d9 + 1))]) (rest := []) ⟨hx, hb, hml, hown, hts⟩ (c_Z_put l D q az th n k (nI mu) (nI 0) S5.1.length fd ln fm fw st5 sp5 wy5 se5 S5 (pz_it (bl_g n 0 sg tu o) (t + 1) x) (d9 + 1) rfl hz5 hlen5 hcd2 (fun x9 h9 => pz_lt31 hn (hsp5.1 x9 h9).1) (fun h0 => zb_room hn hz5.1 hsp5.1 hca2 h0) _) (cwV 2 hts (wz_goodV kw_582 kw_584 kw_24 kw_37 kw_585) rfl rfl rfl (by decide +kernel) ⟨Nat.le_of_ble_eq_true rfl, Nat.le_of_ble_eq_true rfl⟩) (wz_preV (gi := 0) (k := 0) hN hK hQ wz_L_ok rfl rfl rfl) rfl rfl hl.1 rfl (lv_room (Nat.le_of_ble_eq_true rfl)) d_Z_spreadOut_146 ⟨Nat.le_of_ble_eq_true rfl, Nat.le_of_ble_eq_true rfl⟩) hQ hS hA (fun v_146 gx H locs hp hP hD hS => ?_)
                              obtain ⟨st6, sp6, wy6, se6, j, rfl, rfl, hj, hz6⟩ := hp
                              have hsp6 := zsp_take hsp5 (by omega) hca2
                              have hlen6 := zb_len hn hz6.1 hsp6.1
                              have hjl := (List.getElem?_eq_some_iff.mp hj).1
                              have hil6 := (List.getElem?_eq_some_iff.mp hsp6.2.1).1
                              obtain ⟨e9, he9⟩ := pz_mem_far hz6.1 (List.mem_of_getElem? hj)
                              have he9l := hsp6.2.2.2.2 _ _ he9
                              obtain ⟨hP, hD⟩ := wz_ord (n := 4) (gs' := [zo_W q az th n k (nI mu) (nI 0) ((pz_take (d9 + 1) S5 (pz_it (bl_g n 0 sg tu o) (t + 1) x)).1.length) fd ln fm fw, zt_W q az to fo, zs_W q az sb gb, zb_W q az st6 sp6 wy6 se6]) [0, 2, 3, 1] rfl (by decide) rfl hP hD
                              refine lv_istore (lv' := [(7, .int (nI j)), (5, .int (nI (pz_it (bl_g n 0 sg tu o) (t + 1) x))), (0, .ref (az 0)), (1, .int (nI mu)), (2, .int (nI 0)), (3, .int (nI i)), (4, .int (nI o)), (6, .int (nI t))]) hx hb d_Z_spreadOut_149 hl (by decide) rfl (fun ls hl => ?_)
                              refine lv_aload_n hx hb d_Z_spreadOut_151 rfl (lv_at hl 2 rfl) ?_
                              refine wz_get (v := .ref (az 6)) (T := T_Z) (N := 22) hx hb hts i_Z hown hK hP 0 0 rfl rfl rfl 11 (by decide) (hts _ kw_476) rfl rfl d_Z_spreadOut_152 ?_
                              refine lv_iload hx hb d_Z_spreadOut_155 (lv_at hl 0 rfl) ?_
                              refine wz_iald hx hb hK hP 3 1 (j := j) rfl rfl (by omega) (by decide) d_Z_spreadOut_157 ?_
                              refine wz_topi (y := nI e9) (zb_far hz6 hj he9) ?_
                              refine lv_aload_n hx hb d_Z_spreadOut_158 rfl (lv_at hl 2 rfl) ?_
                              refine wz_get (v := .ref (az 6)) (T := T_Z) (N := 22) hx hb hts i_Z hown hK hP 0 0 rfl rfl rfl 11 (by decide) (hts _ kw_476) rfl rfl d_Z_spreadOut_159 ?_
                              refine lv_iload_n hx hb d_Z_spreadOut_162 rfl (lv_at hl 5 rfl) ?_
                              refine wz_iald hx hb hK hP 3 1 (j := i) rfl rfl (by omega) (by decide) d_Z_spreadOut_163 ?_
                              refine wz_topi (y := nI d9) (zb_far hz6 hsp6.2.1 hsp6.2.2.1) ?_
                              refine lv_iconst (v := nI 1) hx hb d_Z_spreadOut_164 (by decide) ?_
                              refine lv_iadd hx hb d_Z_spreadOut_165 ?_
                              refine wz_topi (y := nI (d9 + 1)) (nI_add d9 1) ?_
                              refine wz_ne (tgt := 185) hx hb d_Z_spreadOut_166 (by decide) (by omega) (by omega) (fun hc6 => ?_) (fun hc6 => ?_)
                              · skip
                                have hb9 : pz_bump (d9 + 1) (S1.2.2 x) (pz_take (d9 + 1) S5 (pz_it (bl_g n 0 sg tu o) (t + 1) x)) (pz_it (bl_g n 0 sg tu o) (t + 1) x) = pz_take (d9 + 1) S5 (pz_it (bl_g n 0 sg tu o) (t + 1) x) := pz_bump_no (fun q => hc6 (Option.some.inj (he9.symm.trans q)))
                                have hS7 : pz_take (d9 + 1) S5 (pz_it (bl_g n 0 sg tu o) (t + 1) x) = (pz_tm (bl_g n 0 sg tu o) x (t + 1)).foldl (pz_vis (d9 + 1) (S1.2.2 x)) S3 := by rw [pz_tm_fold, ← hS5, hb9]
                                refine lv_iinc (v := nI (t + 1)) (lv' := [(6, .int (nI (t + 1))), (7, .int (nI j)), (5, .int (nI (pz_it (bl_g n 0 sg tu o) (t + 1) x))), (0, .ref (az 0)), (1, .int (nI mu)), (2, .int (nI 0)), (3, .int (nI i)), (4, .int (nI o))]) hx hb d_Z_spreadOut_185 hl (k := 7) rfl (nI_1 t) (by decide) rfl (fun ls hl => ?_)
                                refine lv_goto (tgt := 112) hx hb d_Z_spreadOut_188 (by decide) ?_
                                exact ih4 (t + 1) (pz_take (d9 + 1) S5 (pz_it (bl_g n 0 sg tu o) (t + 1) x)) st6 sp6 wy6 se6 (by omega) (by omega) hS7 hz6 hsp6 hca2 _ _ _ hP hD hS (lv_sub hl [3, 4, 5, 6, 7, 2, 0] rfl)
                              · skip
                                subst hc6
                                have hS7 : pz_bump (d9 + 1) (S1.2.2 x) (pz_take (d9 + 1) S5 (pz_it (bl_g n 0 sg tu o) (t + 1) x)) (pz_it (bl_g n 0 sg tu o) (t + 1) x) = (pz_tm (bl_g n 0 sg tu o) x (t + 1)).foldl (pz_vis (d9 + 1) (S1.2.2 x)) S3 := by rw [pz_tm_fold, ← hS5]
                                have hz7 := zb_bump (w := S1.2.2 x) hz6 hj he9
                                have hsp7 := zsp_bump (w := S1.2.2 x) hsp6 he9
                                refine lv_aload_n hx hb d_Z_spreadOut_169 rfl (lv_at hl 2 rfl) ?_
                                refine wz_get (v := .ref (az 7)) (T := T_Z) (N := 22) hx hb hts i_Z hown hK hP 0 0 rfl rfl rfl 12 (by decide) (hts _ kw_477) rfl rfl d_Z_spreadOut_170 ?_
                                refine lv_iload hx hb d_Z_spreadOut_173 (lv_at hl 0 rfl) ?_
                                refine lv_dup2_11 hx hb d_Z_spreadOut_175 rfl rfl ?_
                                refine wz_lald hx hb hK hP 3 2 (j := j) rfl rfl (by omega) (by decide) d_Z_spreadOut_176 ?_
                                refine lv_aload_n hx hb d_Z_spreadOut_177 rfl (lv_at hl 2 rfl) ?_
                                refine wz_get (v := .ref (az 7)) (T := T_Z) (N := 22) hx hb hts i_Z hown hK hP 0 0 rfl rfl rfl 12 (by decide) (hts _ kw_477) rfl rfl d_Z_spreadOut_178 ?_
                                refine lv_iload_n hx hb d_Z_spreadOut_181 rfl (lv_at hl 5 rfl) ?_
                                refine wz_lald hx hb hK hP 3 2 (j := i) rfl rfl (by omega) (by decide) d_Z_spreadOut_182 ?_
                                refine wz_topl (y := S1.2.2 x) ((hz6.2.1 i x hsp6.2.1).2.2.trans hsp6.2.2.2.1) ?_
                                refine lv_ladd hx hb d_Z_spreadOut_183 ?_
                                refine wz_last (gs' := [zo_W q az th n k (nI mu) (nI 0) ((pz_take (d9 + 1) S5 (pz_it (bl_g n 0 sg tu o) (t + 1) x)).1.length) fd ln fm fw, zt_W q az to fo, zs_W q az sb gb, zb_W q az st6 sp6 (vp_updL wy6 j ((wy6 j) + (S1.2.2 x))) se6]) hx hb hK hP hD hS 3 2 (j := j) rfl rfl (by omega) (by decide) d_Z_spreadOut_184 rfl (fun H locs hP hD hS => ?_)
                                refine lv_iinc (v := nI (t + 1)) (lv' := [(6, .int (nI (t + 1))), (7, .int (nI j)), (5, .int (nI (pz_it (bl_g n 0 sg tu o) (t + 1) x))), (0, .ref (az 0)), (1, .int (nI mu)), (2, .int (nI 0)), (3, .int (nI i)), (4, .int (nI o))]) hx hb d_Z_spreadOut_185 hl (k := 7) rfl (nI_1 t) (by decide) rfl (fun ls hl => ?_)
                                refine lv_goto (tgt := 112) hx hb d_Z_spreadOut_188 (by decide) ?_
                                have hle : (pz_bump (d9 + 1) (S1.2.2 x) (pz_take (d9 + 1) S5 (pz_it (bl_g n 0 sg tu o) (t + 1) x)) (pz_it (bl_g n 0 sg tu o) (t + 1) x)).1.length = (pz_take (d9 + 1) S5 (pz_it (bl_g n 0 sg tu o) (t + 1) x)).1.length := by rw [pz_bump_len]
                                rw [← hle] at hP hD
                                exact ih4 (t + 1) (pz_bump (d9 + 1) (S1.2.2 x) (pz_take (d9 + 1) S5 (pz_it (bl_g n 0 sg tu o) (t + 1) x)) (pz_it (bl_g n 0 sg tu o) (t + 1) x)) st6 sp6 (vp_updL wy6 j (wy6 j + S1.2.2 x)) se6 (by omega) (by omega) hS7 hz7 hsp7 hca2 _ _ _ hP hD hS (lv_sub hl [3, 4, 5, 6, 7, 2, 0] rfl)
                        exact loop4 (bl_mt (nI mu) od o + 1) 0 S3 st3 sp3 wy3 se3 (by omega) (by omega) rfl hz3 hsp3 hxa _ _ _ hP hD hS (lv_sub hl [2, 3, 4, 5, 6, 1, 0] rfl)
                  exact loop3 (k + 1) 0 S1 st1 sp1 wy1 se1 (by omega) (by omega) rfl hz1 hsp _ _ _ hP hD hS (lv_sub hl [1, 2, 3, 4, 0] rfl)
            exact loop2 40321 0 (pz_S0 sa) st2 sp2 (vp_updL wy2 0 1) se2 (by omega) (by omega) hz3 (pz_inv_0 _ _) (fun c9 h9 => by rw [List.mem_singleton.mp h9]; exact hra) _ _ _ hP hD hS (lv_sub hl [1, 2, 3, 0] rfl)
          · skip
            exact absurd hc2 (by decide)
        · skip
          refine lv_aload_n hx hb d_Z_spreadOut_40 rfl (lv_at hl 0 rfl) ?_
          refine wz_get (v := .ref (az 8)) (T := T_Z) (N := 22) hx hb hts i_Z hown hK hP 0 0 rfl rfl rfl 13 (by decide) (hts _ kw_478) rfl rfl d_Z_spreadOut_41 ?_
          refine lv_iload_n hx hb d_Z_spreadOut_44 rfl (lv_at hl 3 rfl) ?_
          refine lv_iconst (v := nI 0) hx hb d_Z_spreadOut_45 (by decide) ?_
          refine wz_iast (gs' := [zo_W q az th n k (nI mu) (nI 0) 0 fd ln fm fw, zt_W q az to fo, zs_W q az sb gb, zb_W q az st sp wy (upd se1 i (nI 0))]) hx hb hK hP hD hS 3 3 (j := i) rfl rfl (by omega) (by decide) d_Z_spreadOut_46 rfl (fun H locs hP hD hS => ?_)
          refine lv_iinc (v := nI (i + 1)) (lv' := [(3, .int (nI (i + 1))), (0, .ref (az 0)), (1, .int (nI mu)), (2, .int (nI 0))]) hx hb d_Z_spreadOut_47 hl (k := 3) rfl (nI_1 i) (by decide) rfl (fun ls hl => ?_)
          refine lv_goto (tgt := 34) hx hb d_Z_spreadOut_50 (by decide) ?_
          exact ih (i + 1) (upd se1 i (nI 0)) (by omega) (by omega) (fun j hj => by
      by_cases e0 : j = i
      · subst e0; exact pk_us
      · exact (pk_un e0).trans (hz1 j (by omega))) _ _ _ hP hD hS (lv_sub hl [1, 2, 3, 0] rfl)
    exact loop1 65537 0 se (by omega) (by omega) (fun j h0 => absurd h0 (by omega)) _ _ _ hP hD hS (lv_sub hl [1, 2, 3, 0] rfl)
  refine lv_aload_n hx hb d_Z_spreadOut_0 rfl (lv_at hl 0 rfl) ?_
  refine wz_get (v := .int kn) (T := T_Z) (N := 22) hx hb hts i_Z hown hK hP 0 0 rfl rfl rfl 7 (by decide) (hts _ kw_472) rfl rfl d_Z_spreadOut_1 ?_
  refine lv_iload_n hx hb d_Z_spreadOut_4 rfl (lv_at hl 1 rfl) ?_
  refine lv_icmp_ne (tgt := 17) hx hb d_Z_spreadOut_5 (by decide) (fun hc => ?_) (fun hc => ?_)
  · skip
    exact hwork _ _ _ hP hD hS (lv_sub hl [0, 1, 2] rfl)
  · skip
    refine lv_aload_n hx hb d_Z_spreadOut_8 rfl (lv_at hl 0 rfl) ?_
    refine wz_get (v := .int bk) (T := T_Z) (N := 22) hx hb hts i_Z hown hK hP 0 0 rfl rfl rfl 8 (by decide) (hts _ kw_473) rfl rfl d_Z_spreadOut_9 ?_
    refine lv_iload_n hx hb d_Z_spreadOut_12 rfl (lv_at hl 2 rfl) ?_
    refine lv_icmp_ne (tgt := 17) hx hb d_Z_spreadOut_13 (by decide) (fun hc1 => ?_) (fun hc1 => ?_)
    · skip
      exact hwork _ _ _ hP hD hS (lv_sub hl [0, 1, 2] rfl)
    · skip
      obtain ⟨S, hsz, hZ⟩ := hkn hc hc1
      subst hc
      subst hc1
      subst hsz
      exact wz_vret hx hb hr hlocks hK hP hD hS d_Z_spreadOut_16 ⟨S, st, sp, wy, se, rfl, hZ⟩
def po_Z_spreadOut1 (q : wz_Q) (az : Nat → Nat) (th : Int32) (n k : Nat) (kn bk : Int32) (sz : Nat) (fd : Int32) (ln : Nat) (fm : Int32) (fw : Int64) (to fo : Nat → Int32) (sb gb : Nat → Int32) (st sp : Nat → Int32) (wy : Nat → Int64) (se : Nat → Int32) (sg tu : Nat → Nat → Nat) (od : Nat → Nat) (mu sa gl : Nat) : wz_G → Prop := fun w => ∃ (S : pz_S) (st' sp' : Nat → Int32) (wy' : Nat → Int64) (se' : Nat → Int32), w = [zo_W q az th n k (nI mu) (nI 1) S.1.length fd ln fm fw, zt_W q az to fo, zs_W q az sb gb, zb_W q az st' sp' wy' se'] ∧ zk n k 6 sg tu od mu gl S st' sp' wy' se'
set_option maxHeartbeats 4000000 in
set_option maxRecDepth 100000 in
/-- how far all states lie -/
theorem c_Z_spreadOut1 (l : Launch) (D : va_G) (q : wz_Q) (az : Nat → Nat) (th : Int32) (n k : Nat) (kn bk : Int32) (sz : Nat) (fd : Int32) (ln : Nat) (fm : Int32) (fw : Int64) (to fo : Nat → Int32) (sb gb : Nat → Int32) (st sp : Nat → Int32) (wy : Nat → Int64) (se : Nat → Int32) (sg tu : Nat → Nat → Nat) (od : Nat → Nat) (mu sa gl : Nat) (hn : n ≤ 8) (hk : k ≤ 6) (hmu : mu ≤ 1) (hok : zm_ok n k to fo sg tu od) (hsa : zs_ok n sb sa) (hgl : zs_ok n gb gl) (hkn : kn = nI mu → bk = nI 1 → ∃ S, sz = S.1.length ∧ zk n k 6 sg tu od mu gl S st sp wy se) : wz_Mv l y_Z_spreadOut ws_Z_spreadOut ({ frames := 2, cells := 0, slots := 0, locals := 45 } : Room) D q ([.ref (az 0), .int (nI mu), .int (nI 1)] : List Value) [zo_W q az th n k kn bk sz fd ln fm fw, zt_W q az to fo, zs_W q az sb gb, zb_W q az st sp wy se] (po_Z_spreadOut1 q az th n k kn bk sz fd ln fm fw to fo sb gb st sp wy se sg tu od mu sa gl) 0 0 := by
  intro sz9
  refine wz_enter (cc := b_Z_spreadOut) (maxL := 8) (ret := none) (Qc := fun A => (va_Qv (po_Z_spreadOut1 q az th n k kn bk sz fd ln fm fw to fo sb gb st sp wy se sg tu od mu sa gl) (wz_At D q A) A)) (by decide) (Nat.le_of_ble_eq_true rfl) ?_
  intro p e s m below meth c A ls C hP hD hS hl
  obtain ⟨hx, hb, hr, hml, hlocks, hown, hts, hN, hK, hA, hnm⟩ := C
  have hown : s.vm.findClass "TwoEndSearchModel" = some m.cls := hown
  have hl : lv_has ls 8 [(0, .ref (az 0)), (1, .int (nI mu)), (2, .int (nI 1))] := hl
  have hra : pz_arr n gl gl := pz_arr_self hgl.1
  have hmv := zm_mv hk hok
  have harr := bl_s_arr (me := nI mu) (a0 := gl) hmv hk (fw := 6) (by decide)
  have hmt : ∀ o, o < k → bl_mt (nI mu) od o ≤ 14 := fun o ho => bl_mt_le hmv ho
  have hwork : ∀ (H : Heap) (locs : List Loc) (ls : Array Slot), va_P D vwCl ([zo_W q az th n k kn bk sz fd ln fm fw, zt_W q az to fo, zs_W q az sb gb, zb_W q az st sp wy se] : wz_G).flatten H → va_D A ([zo_W q az th n k kn bk sz fd ln fm fw, zt_W q az to fo, zs_W q az sb gb, zb_W q az st sp wy se] : wz_G).flatten → va_S A s.heap H locs → lv_has ls 8 [(0, .ref (az 0)), (1, .int (nI mu)), (2, .int (nI 1))] → W p l e ({ frames := 2, cells := 0, slots := 0, locals := 45 } : Room) s m ([.ref (az 0), .int (nI mu), .int (nI 1)] : List Value).toArray below meth c H locs 0 0 (MQ below (va_Qv (po_Z_spreadOut1 q az th n k kn bk sz fd ln fm fw to fo sb gb st sp wy se sg tu od mu sa gl) (wz_At D q A) A) ([.ref (az 0), .int (nI mu), .int (nI 1)] : List Value).toArray s 0 0 A) (F0 m 17 ls []) := by
    intro   H locs ls hP hD hS hl
    refine lv_aload_n hx hb d_Z_spreadOut_17 rfl (lv_at hl 0 rfl) ?_
    refine lv_iload_n hx hb d_Z_spreadOut_18 rfl (lv_at hl 1 rfl) ?_
    refine wz_put (gs' := [zo_W q az th n k (nI mu) bk sz fd ln fm fw, zt_W q az to fo, zs_W q az sb gb, zb_W q az st sp wy se]) (v := .int (nI mu)) (T := T_Z) (N := 22) hx hb hts i_Z t_Z t_Z_ok n_Z hown hK hP hD hS 0 0 rfl rfl rfl 7 (by decide) (hts _ kw_472) rfl rfl (ty := t_Z 7) (by decide +kernel) rfl rfl (Nat.le_of_ble_eq_true rfl) d_Z_spreadOut_19 rfl (fun H locs hP hD hS => ?_)
    refine lv_aload_n hx hb d_Z_spreadOut_22 rfl (lv_at hl 0 rfl) ?_
    refine lv_iload_n hx hb d_Z_spreadOut_23 rfl (lv_at hl 2 rfl) ?_
    refine wz_put (gs' := [zo_W q az th n k (nI mu) (nI 1) sz fd ln fm fw, zt_W q az to fo, zs_W q az sb gb, zb_W q az st sp wy se]) (v := .int (nI 1)) (T := T_Z) (N := 22) hx hb hts i_Z t_Z t_Z_ok n_Z hown hK hP hD hS 0 0 rfl rfl rfl 8 (by decide) (hts _ kw_473) rfl rfl (ty := t_Z 8) (by decide +kernel) rfl rfl (Nat.le_of_ble_eq_true rfl) d_Z_spreadOut_24 rfl (fun H locs hP hD hS => ?_)
    refine lv_aload_n hx hb d_Z_spreadOut_27 rfl (lv_at hl 0 rfl) ?_
    refine lv_iconst (v := nI 0) hx hb d_Z_spreadOut_28 (by decide) ?_
    refine wz_put (gs' := [zo_W q az th n k (nI mu) (nI 1) 0 fd ln fm fw, zt_W q az to fo, zs_W q az sb gb, zb_W q az st sp wy se]) (v := .int (nI 0)) (T := T_Z) (N := 22) hx hb hts i_Z t_Z t_Z_ok n_Z hown hK hP hD hS 0 0 rfl rfl rfl 9 (by decide) (hts _ kw_474) rfl rfl (ty := t_Z 9) (by decide +kernel) rfl rfl (Nat.le_of_ble_eq_true rfl) d_Z_spreadOut_29 rfl (fun H locs hP hD hS => ?_)
    refine lv_iconst (v := nI 0) hx hb d_Z_spreadOut_32 (by decide) ?_
    refine lv_istore_n (lv' := [(3, .int (nI 0)), (0, .ref (az 0)), (1, .int (nI mu)), (2, .int (nI 1))]) hx hb d_Z_spreadOut_33 rfl hl (by decide) rfl (fun ls hl => ?_)
    have loop1 : ∀ (d : Nat) (i : Nat) (se1 : Nat → Int32), i ≤ 65536 → 65537 ≤ i + d → (∀ j, j < i → se1 j = nI 0) → ∀ (H : Heap) (locs : List Loc) (ls : Array Slot), va_P D vwCl ([zo_W q az th n k (nI mu) (nI 1) 0 fd ln fm fw, zt_W q az to fo, zs_W q az sb gb, zb_W q az st sp wy se1] : wz_G).flatten H → va_D A ([zo_W q az th n k (nI mu) (nI 1) 0 fd ln fm fw, zt_W q az to fo, zs_W q az sb gb, zb_W q az st sp wy se1] : wz_G).flatten → va_S A s.heap H locs → lv_has ls 8 [(0, .ref (az 0)), (1, .int (nI mu)), (2, .int (nI 1)), (3, .int (nI i))] → W p l e ({ frames := 2, cells := 0, slots := 0, locals := 45 } : Room) s m ([.ref (az 0), .int (nI mu), .int (nI 1)] : List Value).toArray below meth c H locs 0 0 (MQ below (va_Qv (po_Z_spreadOut1 q az th n k kn bk sz fd ln fm fw to fo sb gb st sp wy se sg tu od mu sa gl) (wz_At D q A) A) ([.ref (az 0), .int (nI mu), .int (nI 1)] : List Value).toArray s 0 0 A) (F0 m 34 ls []) := by
      intro d
      induction d with
      | zero =>
        intro i se1 hi hd hz1
        omega
      | succ d ih =>
        intro i se1 hi hd hz1 H locs ls hP hD hS hl
        refine lv_iload_n hx hb d_Z_spreadOut_34 rfl (lv_at hl 3 rfl) ?_
        refine lv_ldc (v := nI 65536) hx hb hown (hts _ kw_456) d_Z_spreadOut_35 ?_
        refine wz_ge (tgt := 53) hx hb d_Z_spreadOut_37 (by decide) (by omega) (by omega) (fun hc => ?_) (fun hc => ?_)
        · skip
          have hi6 : i = 65536 := by omega
          subst hi6
          refine lv_aload_n hx hb d_Z_spreadOut_53 rfl (lv_at hl 0 rfl) ?_
          refine wz_get (v := .ref (az 7)) (T := T_Z) (N := 22) hx hb hts i_Z hown hK hP 0 0 rfl rfl rfl 12 (by decide) (hts _ kw_477) rfl rfl d_Z_spreadOut_54 ?_
          refine lv_aload_n hx hb d_Z_spreadOut_57 rfl (lv_at hl 0 rfl) ?_
          refine lv_iload_n hx hb d_Z_spreadOut_58 rfl (lv_at hl 2 rfl) ?_
          refine lv_if_eq (tgt := 69) hx hb d_Z_spreadOut_59 (by decide) (fun hc2 => ?_) (fun hc2 => ?_)
          · skip
            exact absurd hc2 (by decide)
          · skip
            refine lv_aload_n hx hb d_Z_spreadOut_62 rfl (lv_at hl 0 rfl) ?_
            have hQ := wz_split (n := 4) (gc := [zo_W q az th n k (nI mu) (nI 1) 0 fd ln fm fw, zs_W q az sb gb]) (gr := [zt_W q az to fo, zb_W q az st sp wy se1]) [0, 2] [1, 3] rfl (by decide) rfl rfl hP hD
            refine wz_calli (va_runV (As := []) (rest := [.ref (az 0), .ref (az 7)]) ⟨hx, hb, hml, hown, hts⟩ (c_Z_codeOfGoal l D q az th n k (nI mu) (nI 1) 0 fd ln fm fw sb gb gl hn hgl _) (cwV 0 hts (wz_goodV kw_574 kw_576 kw_22 kw_37 kw_577) rfl rfl rfl (by decide +kernel) ⟨Nat.le_of_ble_eq_true rfl, Nat.le_of_ble_eq_true rfl⟩) (wz_preV (gi := 0) (k := 0) hN hK hQ wz_L_ok rfl rfl rfl) rfl rfl hl.1 rfl (lv_room (Nat.le_of_ble_eq_true rfl)) d_Z_spreadOut_63 ⟨Nat.le_of_ble_eq_true rfl, Nat.le_of_ble_eq_true rfl⟩) hQ hS hA (fun v_63 gx H locs hp hP hD hS => ?_)
            obtain ⟨rfl, rfl⟩ := hp
            obtain ⟨hP, hD⟩ := wz_ord (n := 4) (gs' := [zo_W q az th n k (nI mu) (nI 1) 0 fd ln fm fw, zt_W q az to fo, zs_W q az sb gb, zb_W q az st sp wy se1]) [0, 2, 1, 3] rfl (by decide) rfl hP hD
            refine lv_goto (tgt := 73) hx hb d_Z_spreadOut_66 (by decide) ?_
            refine lv_iconst (v := nI 0) hx hb d_Z_spreadOut_73 (by decide) ?_
            have hQ := wz_split (n := 4) (gc := [zo_W q az th n k (nI mu) (nI 1) 0 fd ln fm fw, zb_W q az st sp wy se1]) (gr := [zt_W q az to fo, zs_W q az sb gb]) [0, 3] [1, 2] rfl (by decide) rfl rfl hP hD
            refine wz_calli (va_runV (As := [.int (nI gl), .int (nI 0)]) (rest := [.ref (az 7)]) ⟨hx, hb, hml, hown, hts⟩ (c_Z_put l D q az th n k (nI mu) (nI 1) 0 fd ln fm fw st sp wy se1 zE gl 0 rfl (zb_E hz1) (by decide) (pz_lt31 hn hgl.1) (fun x9 h9 => by cases h9) (fun _ => by decide) _) (cwV 2 hts (wz_goodV kw_582 kw_584 kw_24 kw_37 kw_585) rfl rfl rfl (by decide +kernel) ⟨Nat.le_of_ble_eq_true rfl, Nat.le_of_ble_eq_true rfl⟩) (wz_preV (gi := 0) (k := 0) hN hK hQ wz_L_ok rfl rfl rfl) rfl rfl hl.1 rfl (lv_room (Nat.le_of_ble_eq_true rfl)) d_Z_spreadOut_74 ⟨Nat.le_of_ble_eq_true rfl, Nat.le_of_ble_eq_true rfl⟩) hQ hS hA (fun v_74 gx H locs hp hP hD hS => ?_)
            obtain ⟨st2, sp2, wy2, se2, j, rfl, rfl, hj, hz2⟩ := hp
            obtain ⟨rfl, hz3⟩ := zb_first hz2 hj
            obtain ⟨hP, hD⟩ := wz_ord (n := 4) (gs' := [zo_W q az th n k (nI mu) (nI 1) 1 fd ln fm fw, zt_W q az to fo, zs_W q az sb gb, zb_W q az st2 sp2 wy2 se2]) [0, 2, 3, 1] rfl (by decide) rfl hP hD
            refine lv_lconst (v := 1) hx hb d_Z_spreadOut_77 rfl ?_
            refine wz_last (gs' := [zo_W q az th n k (nI mu) (nI 1) 1 fd ln fm fw, zt_W q az to fo, zs_W q az sb gb, zb_W q az st2 sp2 (vp_updL wy2 0 1) se2]) hx hb hK hP hD hS 3 2 (j := 0) rfl rfl (by omega) (by decide) d_Z_spreadOut_78 rfl (fun H locs hP hD hS => ?_)
            refine lv_iconst (v := nI 0) hx hb d_Z_spreadOut_79 (by decide) ?_
            refine lv_istore_n (lv' := [(3, .int (nI 0)), (0, .ref (az 0)), (1, .int (nI mu)), (2, .int (nI 1))]) hx hb d_Z_spreadOut_80 rfl hl (by decide) rfl (fun ls hl => ?_)
            have hP : va_P D vwCl ([zo_W q az th n k (nI mu) (nI 1) ((pz_S0 gl).1.length) fd ln fm fw, zt_W q az to fo, zs_W q az sb gb, zb_W q az st2 sp2 (vp_updL wy2 0 1) se2] : wz_G).flatten H := hP
            have hD : va_D A ([zo_W q az th n k (nI mu) (nI 1) ((pz_S0 gl).1.length) fd ln fm fw, zt_W q az to fo, zs_W q az sb gb, zb_W q az st2 sp2 (vp_updL wy2 0 1) se2] : wz_G).flatten := hD
            have loop2 : ∀ (d2 : Nat) (i : Nat) (S1 : pz_S) (st1 sp1 : Nat → Int32) (wy1 : Nat → Int64) (se1 : Nat → Int32), i ≤ S1.1.length → 40321 ≤ i + d2 → zb_ok S1 st1 sp1 wy1 se1 → pz_inv (bl_s n k 6 sg tu od (nI mu)) gl i S1 → (∀ c, c ∈ S1.1 → pz_arr n gl c) → ∀ (H : Heap) (locs : List Loc) (ls : Array Slot), va_P D vwCl ([zo_W q az th n k (nI mu) (nI 1) S1.1.length fd ln fm fw, zt_W q az to fo, zs_W q az sb gb, zb_W q az st1 sp1 wy1 se1] : wz_G).flatten H → va_D A ([zo_W q az th n k (nI mu) (nI 1) S1.1.length fd ln fm fw, zt_W q az to fo, zs_W q az sb gb, zb_W q az st1 sp1 wy1 se1] : wz_G).flatten → va_S A s.heap H locs → lv_has ls 8 [(0, .ref (az 0)), (1, .int (nI mu)), (2, .int (nI 1)), (3, .int (nI i))] → W p l e ({ frames := 2, cells := 0, slots := 0, locals := 45 } : Room) s m ([.ref (az 0), .int (nI mu), .int (nI 1)] : List Value).toArray below meth c H locs 0 0 (MQ below (va_Qv (po_Z_spreadOut1 q az th n k kn bk sz fd ln fm fw to fo sb gb st sp wy se sg tu od mu sa gl) (wz_At D q A) A) ([.ref (az 0), .int (nI mu), .int (nI 1)] : List Value).toArray s 0 0 A) (F0 m 81 ls []) := by
              intro d2
              induction d2 with
              | zero =>
                intro i S1 st1 sp1 wy1 se1 hi hd2 hz1 hinv hm1
                have := zb_len hn hz1.1 hm1; omega
              | succ d2 ih2 =>
                intro i S1 st1 sp1 wy1 se1 hi hd2 hz1 hinv hm1 H locs ls hP hD hS hl
                have hlen := zb_len hn hz1.1 hm1
                refine lv_iload_n hx hb d_Z_spreadOut_81 rfl (lv_at hl 3 rfl) ?_
                refine lv_aload_n hx hb d_Z_spreadOut_82 rfl (lv_at hl 0 rfl) ?_
                refine wz_get (v := .int (nI S1.1.length)) (T := T_Z) (N := 22) hx hb hts i_Z hown hK hP 0 0 rfl rfl rfl 9 (by decide) (hts _ kw_474) rfl rfl d_Z_spreadOut_83 ?_
                refine wz_ge (tgt := 203) hx hb d_Z_spreadOut_86 (by decide) (by omega) (by omega) (fun hc3 => ?_) (fun hc3 => ?_)
                · skip
                  have hie : i = S1.1.length := by omega
                  subst hie
                  exact wz_vret hx hb hr hlocks hK hP hD hS d_Z_spreadOut_203 ⟨S1, st1, sp1, wy1, se1, rfl, hz1, hinv, hm1⟩
                · skip
                  obtain ⟨x, hx9⟩ : ∃ x, S1.1[i]? = some x := ⟨_, List.getElem?_eq_getElem hc3⟩
                  obtain ⟨d9, hd9⟩ := pz_mem_far hz1.1 (List.mem_of_getElem? hx9)
                  have hd4 := zk_far hn harr hra hinv hd9
                  have hxa := hm1 x (List.mem_of_getElem? hx9)
                  have hsp : zsp n gl d9 i x (S1.2.2 x) S1 := ⟨hm1, hx9, hd9, rfl, fun y e he => by have := zk_far hn harr hra hinv he; omega⟩
                  have hx24 := pz_lt31 hn hxa.1
                  refine lv_iconst (v := nI 0) hx hb d_Z_spreadOut_89 (by decide) ?_
                  refine lv_istore (lv' := [(4, .int (nI 0)), (0, .ref (az 0)), (1, .int (nI mu)), (2, .int (nI 1)), (3, .int (nI i))]) hx hb d_Z_spreadOut_90 hl (by decide) rfl (fun ls hl => ?_)
                  have loop3 : ∀ (d3 : Nat) (o : Nat) (S3 : pz_S) (st3 sp3 : Nat → Int32) (wy3 : Nat → Int64) (se3 : Nat → Int32), o ≤ k → k + 1 ≤ o + d3 → S3 = (pz_st (bl_g n 6 sg tu) (bl_mt (nI mu) od) o x).foldl (pz_vis (d9 + 1) (S1.2.2 x)) S1 → zb_ok S3 st3 sp3 wy3 se3 → zsp n gl d9 i x (S1.2.2 x) S3 → ∀ (H : Heap) (locs : List Loc) (ls : Array Slot), va_P D vwCl ([zo_W q az th n k (nI mu) (nI 1) S3.1.length fd ln fm fw, zt_W q az to fo, zs_W q az sb gb, zb_W q az st3 sp3 wy3 se3] : wz_G).flatten H → va_D A ([zo_W q az th n k (nI mu) (nI 1) S3.1.length fd ln fm fw, zt_W q az to fo, zs_W q az sb gb, zb_W q az st3 sp3 wy3 se3] : wz_G).flatten → va_S A s.heap H locs → lv_has ls 8 [(0, .ref (az 0)), (1, .int (nI mu)), (2, .int (nI 1)), (3, .int (nI i)), (4, .int (nI o))] → W p l e ({ frames := 2, cells := 0, slots := 0, locals := 45 } : Room) s m ([.ref (az 0), .int (nI mu), .int (nI 1)] : List Value).toArray below meth c H locs 0 0 (MQ below (va_Qv (po_Z_spreadOut1 q az th n k kn bk sz fd ln fm fw to fo sb gb st sp wy se sg tu od mu sa gl) (wz_At D q A) A) ([.ref (az 0), .int (nI mu), .int (nI 1)] : List Value).toArray s 0 0 A) (F0 m 92 ls []) := by
                    intro d3
                    induction d3 with
                    | zero =>
                      intro o S3 st3 sp3 wy3 se3 hok3 hd3 hS3 hz3 hsp3
                      omega
                    | succ d3 ih3 =>
                      intro o S3 st3 sp3 wy3 se3 hok3 hd3 hS3 hz3 hsp3 H locs ls hP hD hS hl
                      have hlen3 := zb_len hn hz3.1 hsp3.1
                      have hil3 := (List.getElem?_eq_some_iff.mp hsp3.2.1).1
                      refine lv_iload hx hb d_Z_spreadOut_92 (lv_at hl 4 rfl) ?_
                      refine lv_aload_n hx hb d_Z_spreadOut_94 rfl (lv_at hl 0 rfl) ?_
                      refine wz_get (v := .int (nI k)) (T := T_Z) (N := 22) hx hb hts i_Z hown hK hP 0 0 rfl rfl rfl 2 (by decide) (hts _ kw_467) rfl rfl d_Z_spreadOut_95 ?_
                      refine wz_ge (tgt := 197) hx hb d_Z_spreadOut_98 (by decide) (by omega) (by omega) (fun hc4 => ?_) (fun hc4 => ?_)
                      · skip
                        have hoe : k = o := by omega
                        subst hoe
                        have hinv3 := pz_inv_step hinv hx9 hd9
                        rw [show (bl_s n k 6 sg tu od (nI mu)) x = pz_st (bl_g n 6 sg tu) (bl_mt (nI mu) od) k x from rfl, ← hS3] at hinv3
                        refine lv_iinc (v := nI (i + 1)) (lv' := [(3, .int (nI (i + 1))), (0, .ref (az 0)), (1, .int (nI mu)), (2, .int (nI 1)), (4, .int (nI k))]) hx hb d_Z_spreadOut_197 hl (k := 3) rfl (nI_1 i) (by decide) rfl (fun ls hl => ?_)
                        refine lv_goto (tgt := 81) hx hb d_Z_spreadOut_200 (by decide) ?_
                        exact ih2 (i + 1) S3 st3 sp3 wy3 se3 (by omega) (by omega) hz3 hinv3 hsp3.1 _ _ _ hP hD hS (lv_sub hl [1, 2, 3, 0] rfl)
                      · skip
                        refine lv_aload_n hx hb d_Z_spreadOut_101 rfl (lv_at hl 0 rfl) ?_
                        refine wz_get (v := .ref (az 5)) (T := T_Z) (N := 22) hx hb hts i_Z hown hK hP 0 0 rfl rfl rfl 10 (by decide) (hts _ kw_475) rfl rfl d_Z_spreadOut_102 ?_
                        refine lv_iload_n hx hb d_Z_spreadOut_105 rfl (lv_at hl 3 rfl) ?_
                        refine wz_iald hx hb hK hP 3 0 (j := i) rfl rfl (by omega) (by decide) d_Z_spreadOut_106 ?_
                        refine wz_topi (y := nI x) (hz3.2.1 i x hsp3.2.1).1 ?_
                        refine lv_istore (lv' := [(5, .int (nI x)), (0, .ref (az 0)), (1, .int (nI mu)), (2, .int (nI 1)), (3, .int (nI i)), (4, .int (nI o))]) hx hb d_Z_spreadOut_107 hl (by decide) rfl (fun ls hl => ?_)
                        refine lv_iconst (v := nI 0) hx hb d_Z_spreadOut_109 (by decide) ?_
                        refine lv_istore (lv' := [(6, .int (nI 0)), (5, .int (nI x)), (0, .ref (az 0)), (1, .int (nI mu)), (2, .int (nI 1)), (3, .int (nI i)), (4, .int (nI o))]) hx hb d_Z_spreadOut_110 hl (by decide) rfl (fun ls hl => ?_)
                        have loop4 : ∀ (d4 : Nat) (t : Nat) (S5 : pz_S) (st5 sp5 : Nat → Int32) (wy5 : Nat → Int64) (se5 : Nat → Int32), t ≤ bl_mt (nI mu) od o → bl_mt (nI mu) od o + 1 ≤ t + d4 → S5 = (pz_tm (bl_g n 6 sg tu o) x t).foldl (pz_vis (d9 + 1) (S1.2.2 x)) S3 → zb_ok S5 st5 sp5 wy5 se5 → zsp n gl d9 i x (S1.2.2 x) S5 → pz_arr n gl (pz_it (bl_g n 6 sg tu o) t x) → ∀ (H : Heap) (locs : List Loc) (ls : Array Slot), va_P D vwCl ([zo_W q az th n k (nI mu) (nI 1) S5.1.length fd ln fm fw, zt_W q az to fo, zs_W q az sb gb, zb_W q az st5 sp5 wy5 se5] : wz_G).flatten H → va_D A ([zo_W q az th n k (nI mu) (nI 1) S5.1.length fd ln fm fw, zt_W q az to fo, zs_W q az sb gb, zb_W q az st5 sp5 wy5 se5] : wz_G).flatten → va_S A s.heap H locs → lv_has ls 8 [(0, .ref (az 0)), (1, .int (nI mu)), (2, .int (nI 1)), (3, .int (nI i)), (4, .int (nI o)), (5, .int (nI (pz_it (bl_g n 6 sg tu o) t x))), (6, .int (nI t))] → W p l e ({ frames := 2, cells := 0, slots := 0, locals := 45 } : Room) s m ([.ref (az 0), .int (nI mu), .int (nI 1)] : List Value).toArray below meth c H locs 0 0 (MQ below (va_Qv (po_Z_spreadOut1 q az th n k kn bk sz fd ln fm fw to fo sb gb st sp wy se sg tu od mu sa gl) (wz_At D q A) A) ([.ref (az 0), .int (nI mu), .int (nI 1)] : List Value).toArray s 0 0 A) (F0 m 112 ls []) := by
                          intro d4
                          induction d4 with
                          | zero =>
                            intro t S5 st5 sp5 wy5 se5 ht5 hd4 hS5 hz5 hsp5 hca
                            omega
                          | succ d4 ih4 =>
                            intro t S5 st5 sp5 wy5 se5 ht5 hd4 hS5 hz5 hsp5 hca H locs ls hP hD hS hl
                            have hlen5 := zb_len hn hz5.1 hsp5.1
                            have hil5 := (List.getElem?_eq_some_iff.mp hsp5.2.1).1
                            have hmo := hmt o hc4
                            refine lv_iload hx hb d_Z_spreadOut_112 (lv_at hl 6 rfl) ?_
                            refine lv_aload_n hx hb d_Z_spreadOut_114 rfl (lv_at hl 0 rfl) ?_
                            refine lv_iload hx hb d_Z_spreadOut_115 (lv_at hl 4 rfl) ?_
                            refine lv_iload_n hx hb d_Z_spreadOut_117 rfl (lv_at hl 1 rfl) ?_
                            have hQ := wz_split (n := 4) (gc := [zo_W q az th n k (nI mu) (nI 1) S5.1.length fd ln fm fw, zt_W q az to fo]) (gr := [zs_W q az sb gb, zb_W q az st5 sp5 wy5 se5]) [0, 1] [2, 3] rfl (by decide) rfl rfl hP hD
                            refine wz_calli (va_runV (As := [.int (nI o), .int (nI mu)]) (rest := [.int (nI t)]) ⟨hx, hb, hml, hown, hts⟩ (c_Z_most l D q az th n k (nI mu) (nI 1) S5.1.length fd ln fm fw to fo o (nI mu) (by omega) _) (cwV 2 hts (wz_goodV kw_591 kw_593 kw_26 kw_37 kw_594) rfl rfl rfl (by decide +kernel) ⟨Nat.le_of_ble_eq_true rfl, Nat.le_of_ble_eq_true rfl⟩) (wz_preV (gi := 0) (k := 0) hN hK hQ wz_L_ok rfl rfl rfl) rfl rfl hl.1 rfl (lv_room (Nat.le_of_ble_eq_true rfl)) d_Z_spreadOut_118 ⟨Nat.le_of_ble_eq_true rfl, Nat.le_of_ble_eq_true rfl⟩) hQ hS hA (fun v_118 gx H locs hp hP hD hS => ?_)
                            obtain ⟨rfl, rfl⟩ := hp
                            obtain ⟨hP, hD⟩ := wz_ord (n := 4) (gs' := [zo_W q az th n k (nI mu) (nI 1) S5.1.length fd ln fm fw, zt_W q az to fo, zs_W q az sb gb, zb_W q az st5 sp5 wy5 se5]) [0, 1, 2, 3] rfl (by decide) rfl hP hD
                            refine wz_topi (y := nI (bl_mt (nI mu) od o)) (zm_mt_eq hk hok hc4) ?_
                            refine wz_ge (tgt := 191) hx hb d_Z_spreadOut_121 (by decide) (by omega) (by omega) (fun hc5 => ?_) (fun hc5 => ?_)
                            · skip
                              have hte : t = bl_mt (nI mu) od o := by omega
                              rw [hte] at hS5
                              have hS6 := hS5.trans (hS3 ▸ pz_st_fold (g := bl_g n 6 sg tu) (mt := bl_mt (nI mu) od) (x := x) (o := o) (d := d9 + 1) (w := S1.2.2 x) (S := S1)).symm
                              refine lv_iinc (v := nI (o + 1)) (lv' := [(4, .int (nI (o + 1))), (0, .ref (az 0)), (1, .int (nI mu)), (2, .int (nI 1)), (3, .int (nI i)), (5, .int (nI (pz_it (bl_g n 6 sg tu o) t x))), (6, .int (nI t))]) hx hb d_Z_spreadOut_191 hl (k := 4) rfl (nI_1 o) (by decide) rfl (fun ls hl => ?_)
                              refine lv_goto (tgt := 92) hx hb d_Z_spreadOut_194 (by decide) ?_
                              exact ih3 (o + 1) S5 st5 sp5 wy5 se5 (by omega) (by omega) hS6 hz5 hsp5 _ _ _ hP hD hS (lv_sub hl [1, 2, 3, 4, 0] rfl)
                            · skip
                              refine lv_aload_n hx hb d_Z_spreadOut_124 rfl (lv_at hl 0 rfl) ?_
                              refine lv_iload hx hb d_Z_spreadOut_125 (lv_at hl 5 rfl) ?_
                              refine lv_iload hx hb d_Z_spreadOut_127 (lv_at hl 4 rfl) ?_
                              refine lv_iload_n hx hb d_Z_spreadOut_129 rfl (lv_at hl 2 rfl) ?_
                              have hQ := wz_split (n := 4) (gc := [zo_W q az th n k (nI mu) (nI 1) S5.1.length fd ln fm fw, zt_W q az to fo]) (gr := [zs_W q az sb gb, zb_W q az st5 sp5 wy5 se5]) [0, 1] [2, 3] rfl (by decide) rfl rfl hP hD
                              refine wz_calli (va_runV (As := [.int (nI (pz_it (bl_g n 6 sg tu o) t x)), .int (nI o), .int (nI 1)]) (rest := []) ⟨hx, hb, hml, hown, hts⟩ (c_Z_done1 l D q az th n k (nI mu) (nI 1) S5.1.length fd ln fm fw to fo (pz_it (bl_g n 6 sg tu o) t x) o (sg o) (tu o) hn (by omega) hca.1 (hok o hc4).2.2.2 (hok o hc4).1 _) (cwV 3 hts (wz_goodV kw_595 kw_597 kw_27 kw_37 kw_598) rfl rfl rfl (by decide +kernel) ⟨Nat.le_of_ble_eq_true rfl, Nat.le_of_ble_eq_true rfl⟩) (wz_preV (gi := 0) (k := 0) hN hK hQ wz_L_ok rfl rfl rfl) rfl rfl hl.1 rfl (lv_room (Nat.le_of_ble_eq_true rfl)) d_Z_spreadOut_130 ⟨Nat.le_of_ble_eq_true rfl, Nat.le_of_ble_eq_true rfl⟩) hQ hS hA (fun v_130 gx H locs hp hP hD hS => ?_)
                              obtain ⟨rfl, rfl⟩ := hp
                              obtain ⟨hP, hD⟩ := wz_ord (n := 4) (gs' := [zo_W q az th n k (nI mu) (nI 1) S5.1.length fd ln fm fw, zt_W q az to fo, zs_W q az sb gb, zb_W q az st5 sp5 wy5 se5]) [0, 1, 2, 3] rfl (by decide) rfl hP hD
                              refine wz_topi (y := nI (pz_it (bl_g n 6 sg tu o) (t + 1) x)) (congrArg nI (congrFun zm_g6.symm _)) ?_
                              have hca2 : pz_arr n gl (pz_it (bl_g n 6 sg tu o) (t + 1) x) := by
                                show pz_arr n gl (bl_g n 6 sg tu o (pz_it (bl_g n 6 sg tu o) t x))
                                rw [congrFun (zm_g6 : bl_g n 6 sg tu o = _) (pz_it (bl_g n 6 sg tu o) t x)]
                                exact pz_arr_act (hok o hc4).1.symm hca
                              have hcd2 := pz_lt31 hn hca2.1
                              refine lv_istore (lv' := [(5, .int (nI (pz_it (bl_g n 6 sg tu o) (t + 1) x))), (0, .ref (az 0)), (1, .int (nI mu)), (2, .int (nI 1)), (3, .int (nI i)), (4, .int (nI o)), (6, .int (nI t))]) hx hb d_Z_spreadOut_133 hl (by decide) rfl (fun ls hl => ?_)
                              refine lv_aload_n hx hb d_Z_spreadOut_135 rfl (lv_at hl 1 rfl) ?_
                              refine lv_iload hx hb d_Z_spreadOut_136 (lv_at hl 0 rfl) ?_
                              refine lv_aload_n hx hb d_Z_spreadOut_138 rfl (lv_at hl 1 rfl) ?_
                              refine wz_get (v := .ref (az 6)) (T := T_Z) (N := 22) hx hb hts i_Z hown hK hP 0 0 rfl rfl rfl 11 (by decide) (hts _ kw_476) rfl rfl d_Z_spreadOut_139 ?_
                              refine lv_iload_n hx hb d_Z_spreadOut_142 rfl (lv_at hl 4 rfl) ?_
                              refine wz_iald hx hb hK hP 3 1 (j := i) rfl rfl (by omega) (by decide) d_Z_spreadOut_143 ?_
                              refine wz_topi (y := nI d9) (zb_far hz5 hsp5.2.1 hsp5.2.2.1) ?_
                              refine lv_iconst (v := nI 1) hx hb d_Z_spreadOut_144 (by decide) ?_
                              refine lv_iadd hx hb d_Z_spreadOut_145 ?_
                              refine wz_topi (y := nI (d9 + 1)) (nI_add d9 1) ?_
                              have hQ := wz_split (n := 4) (gc := [zo_W q az th n k (nI mu) (nI 1) S5.1.length fd ln fm fw, zb_W q az st5 sp5 wy5 se5]) (gr := [zt_W q az to fo, zs_W q az sb gb]) [0, 3] [1, 2] rfl (by decide) rfl rfl hP hD
                              refine wz_calli (va_runV (As := [.int (nI (pz_it (bl_g n 6 sg tu o) (t + 1) x)), .int (nI (d9 + 1))]) (rest := []) ⟨hx, hb, hml, hown, hts⟩ (c_Z_put l D q az th n k (nI mu) (nI 1) S5.1.length fd ln fm fw st5 sp5 wy5 se5 S5 (pz_it (bl_g n 6 sg tu o) (t + 1) x) (d9 + 1) rfl hz5 hlen5 hcd2 (fun x9 h9 => pz_lt31 hn (hsp5.1 x9 h9).1) (fun h0 => zb_room hn hz5.1 hsp5.1 hca2 h0) _) (cwV 2 hts (wz_goodV kw_582 kw_584 kw_24 kw_37 kw_585) rfl rfl rfl (by decide +kernel) ⟨Nat.le_of_ble_eq_true rfl, Nat.le_of_ble_eq_true rfl⟩) (wz_preV (gi := 0) (k := 0) hN hK hQ wz_L_ok rfl rfl rfl) rfl rfl hl.1 rfl (lv_room (Nat.le_of_ble_eq_true rfl)) d_Z_spreadOut_146 ⟨Nat.le_of_ble_eq_true rfl, Nat.le_of_ble_eq_true rfl⟩) hQ hS hA (fun v_146 gx H locs hp hP hD hS => ?_)
                              obtain ⟨st6, sp6, wy6, se6, j, rfl, rfl, hj, hz6⟩ := hp
                              have hsp6 := zsp_take hsp5 (by omega) hca2
                              have hlen6 := zb_len hn hz6.1 hsp6.1
                              have hjl := (List.getElem?_eq_some_iff.mp hj).1
                              have hil6 := (List.getElem?_eq_some_iff.mp hsp6.2.1).1
                              obtain ⟨e9, he9⟩ := pz_mem_far hz6.1 (List.mem_of_getElem? hj)
                              have he9l := hsp6.2.2.2.2 _ _ he9
                              obtain ⟨hP, hD⟩ := wz_ord (n := 4) (gs' := [zo_W q az th n k (nI mu) (nI 1) ((pz_take (d9 + 1) S5 (pz_it (bl_g n 6 sg tu o) (t + 1) x)).1.length) fd ln fm fw, zt_W q az to fo, zs_W q az sb gb, zb_W q az st6 sp6 wy6 se6]) [0, 2, 3, 1] rfl (by decide) rfl hP hD
                              refine lv_istore (lv' := [(7, .int (nI j)), (5, .int (nI (pz_it (bl_g n 6 sg tu o) (t + 1) x))), (0, .ref (az 0)), (1, .int (nI mu)), (2, .int (nI 1)), (3, .int (nI i)), (4, .int (nI o)), (6, .int (nI t))]) hx hb d_Z_spreadOut_149 hl (by decide) rfl (fun ls hl => ?_)
                              refine lv_aload_n hx hb d_Z_spreadOut_151 rfl (lv_at hl 2 rfl) ?_
                              refine wz_get (v := .ref (az 6)) (T := T_Z) (N := 22) hx hb hts i_Z hown hK hP 0 0 rfl rfl rfl 11 (by decide) (hts _ kw_476) rfl rfl d_Z_spreadOut_152 ?_
                              refine lv_iload hx hb d_Z_spreadOut_155 (lv_at hl 0 rfl) ?_
                              refine wz_iald hx hb hK hP 3 1 (j := j) rfl rfl (by omega) (by decide) d_Z_spreadOut_157 ?_
                              refine wz_topi (y := nI e9) (zb_far hz6 hj he9) ?_
                              refine lv_aload_n hx hb d_Z_spreadOut_158 rfl (lv_at hl 2 rfl) ?_
                              refine wz_get (v := .ref (az 6)) (T := T_Z) (N := 22) hx hb hts i_Z hown hK hP 0 0 rfl rfl rfl 11 (by decide) (hts _ kw_476) rfl rfl d_Z_spreadOut_159 ?_
                              refine lv_iload_n hx hb d_Z_spreadOut_162 rfl (lv_at hl 5 rfl) ?_
                              refine wz_iald hx hb hK hP 3 1 (j := i) rfl rfl (by omega) (by decide) d_Z_spreadOut_163 ?_
                              refine wz_topi (y := nI d9) (zb_far hz6 hsp6.2.1 hsp6.2.2.1) ?_
                              refine lv_iconst (v := nI 1) hx hb d_Z_spreadOut_164 (by decide) ?_
                              refine lv_iadd hx hb d_Z_spreadOut_165 ?_
                              refine wz_topi (y := nI (d9 + 1)) (nI_add d9 1) ?_
                              refine wz_ne (tgt := 185) hx hb d_Z_spreadOut_166 (by decide) (by omega) (by omega) (fun hc6 => ?_) (fun hc6 => ?_)
                              · skip
                                have hb9 : pz_bump (d9 + 1) (S1.2.2 x) (pz_take (d9 + 1) S5 (pz_it (bl_g n 6 sg tu o) (t + 1) x)) (pz_it (bl_g n 6 sg tu o) (t + 1) x) = pz_take (d9 + 1) S5 (pz_it (bl_g n 6 sg tu o) (t + 1) x) := pz_bump_no (fun q => hc6 (Option.some.inj (he9.symm.trans q)))
                                have hS7 : pz_take (d9 + 1) S5 (pz_it (bl_g n 6 sg tu o) (t + 1) x) = (pz_tm (bl_g n 6 sg tu o) x (t + 1)).foldl (pz_vis (d9 + 1) (S1.2.2 x)) S3 := by rw [pz_tm_fold, ← hS5, hb9]
                                refine lv_iinc (v := nI (t + 1)) (lv' := [(6, .int (nI (t + 1))), (7, .int (nI j)), (5, .int (nI (pz_it (bl_g n 6 sg tu o) (t + 1) x))), (0, .ref (az 0)), (1, .int (nI mu)), (2, .int (nI 1)), (3, .int (nI i)), (4, .int (nI o))]) hx hb d_Z_spreadOut_185 hl (k := 7) rfl (nI_1 t) (by decide) rfl (fun ls hl => ?_)
                                refine lv_goto (tgt := 112) hx hb d_Z_spreadOut_188 (by decide) ?_
                                exact ih4 (t + 1) (pz_take (d9 + 1) S5 (pz_it (bl_g n 6 sg tu o) (t + 1) x)) st6 sp6 wy6 se6 (by omega) (by omega) hS7 hz6 hsp6 hca2 _ _ _ hP hD hS (lv_sub hl [3, 4, 5, 6, 7, 2, 0] rfl)
                              · skip
                                subst hc6
                                have hS7 : pz_bump (d9 + 1) (S1.2.2 x) (pz_take (d9 + 1) S5 (pz_it (bl_g n 6 sg tu o) (t + 1) x)) (pz_it (bl_g n 6 sg tu o) (t + 1) x) = (pz_tm (bl_g n 6 sg tu o) x (t + 1)).foldl (pz_vis (d9 + 1) (S1.2.2 x)) S3 := by rw [pz_tm_fold, ← hS5]
                                have hz7 := zb_bump (w := S1.2.2 x) hz6 hj he9
                                have hsp7 := zsp_bump (w := S1.2.2 x) hsp6 he9
                                refine lv_aload_n hx hb d_Z_spreadOut_169 rfl (lv_at hl 2 rfl) ?_
                                refine wz_get (v := .ref (az 7)) (T := T_Z) (N := 22) hx hb hts i_Z hown hK hP 0 0 rfl rfl rfl 12 (by decide) (hts _ kw_477) rfl rfl d_Z_spreadOut_170 ?_
                                refine lv_iload hx hb d_Z_spreadOut_173 (lv_at hl 0 rfl) ?_
                                refine lv_dup2_11 hx hb d_Z_spreadOut_175 rfl rfl ?_
                                refine wz_lald hx hb hK hP 3 2 (j := j) rfl rfl (by omega) (by decide) d_Z_spreadOut_176 ?_
                                refine lv_aload_n hx hb d_Z_spreadOut_177 rfl (lv_at hl 2 rfl) ?_
                                refine wz_get (v := .ref (az 7)) (T := T_Z) (N := 22) hx hb hts i_Z hown hK hP 0 0 rfl rfl rfl 12 (by decide) (hts _ kw_477) rfl rfl d_Z_spreadOut_178 ?_
                                refine lv_iload_n hx hb d_Z_spreadOut_181 rfl (lv_at hl 5 rfl) ?_
                                refine wz_lald hx hb hK hP 3 2 (j := i) rfl rfl (by omega) (by decide) d_Z_spreadOut_182 ?_
                                refine wz_topl (y := S1.2.2 x) ((hz6.2.1 i x hsp6.2.1).2.2.trans hsp6.2.2.2.1) ?_
                                refine lv_ladd hx hb d_Z_spreadOut_183 ?_
                                refine wz_last (gs' := [zo_W q az th n k (nI mu) (nI 1) ((pz_take (d9 + 1) S5 (pz_it (bl_g n 6 sg tu o) (t + 1) x)).1.length) fd ln fm fw, zt_W q az to fo, zs_W q az sb gb, zb_W q az st6 sp6 (vp_updL wy6 j ((wy6 j) + (S1.2.2 x))) se6]) hx hb hK hP hD hS 3 2 (j := j) rfl rfl (by omega) (by decide) d_Z_spreadOut_184 rfl (fun H locs hP hD hS => ?_)
                                refine lv_iinc (v := nI (t + 1)) (lv' := [(6, .int (nI (t + 1))), (7, .int (nI j)), (5, .int (nI (pz_it (bl_g n 6 sg tu o) (t + 1) x))), (0, .ref (az 0)), (1, .int (nI mu)), (2, .int (nI 1)), (3, .int (nI i)), (4, .int (nI o))]) hx hb d_Z_spreadOut_185 hl (k := 7) rfl (nI_1 t) (by decide) rfl (fun ls hl => ?_)
                                refine lv_goto (tgt := 112) hx hb d_Z_spreadOut_188 (by decide) ?_
                                have hle : (pz_bump (d9 + 1) (S1.2.2 x) (pz_take (d9 + 1) S5 (pz_it (bl_g n 6 sg tu o) (t + 1) x)) (pz_it (bl_g n 6 sg tu o) (t + 1) x)).1.length = (pz_take (d9 + 1) S5 (pz_it (bl_g n 6 sg tu o) (t + 1) x)).1.length := by rw [pz_bump_len]
                                rw [← hle] at hP hD
                                exact ih4 (t + 1) (pz_bump (d9 + 1) (S1.2.2 x) (pz_take (d9 + 1) S5 (pz_it (bl_g n 6 sg tu o) (t + 1) x)) (pz_it (bl_g n 6 sg tu o) (t + 1) x)) st6 sp6 (vp_updL wy6 j (wy6 j + S1.2.2 x)) se6 (by omega) (by omega) hS7 hz7 hsp7 hca2 _ _ _ hP hD hS (lv_sub hl [3, 4, 5, 6, 7, 2, 0] rfl)
                        exact loop4 (bl_mt (nI mu) od o + 1) 0 S3 st3 sp3 wy3 se3 (by omega) (by omega) rfl hz3 hsp3 hxa _ _ _ hP hD hS (lv_sub hl [2, 3, 4, 5, 6, 1, 0] rfl)
                  exact loop3 (k + 1) 0 S1 st1 sp1 wy1 se1 (by omega) (by omega) rfl hz1 hsp _ _ _ hP hD hS (lv_sub hl [1, 2, 3, 4, 0] rfl)
            exact loop2 40321 0 (pz_S0 gl) st2 sp2 (vp_updL wy2 0 1) se2 (by omega) (by omega) hz3 (pz_inv_0 _ _) (fun c9 h9 => by rw [List.mem_singleton.mp h9]; exact hra) _ _ _ hP hD hS (lv_sub hl [1, 2, 3, 0] rfl)
        · skip
          refine lv_aload_n hx hb d_Z_spreadOut_40 rfl (lv_at hl 0 rfl) ?_
          refine wz_get (v := .ref (az 8)) (T := T_Z) (N := 22) hx hb hts i_Z hown hK hP 0 0 rfl rfl rfl 13 (by decide) (hts _ kw_478) rfl rfl d_Z_spreadOut_41 ?_
          refine lv_iload_n hx hb d_Z_spreadOut_44 rfl (lv_at hl 3 rfl) ?_
          refine lv_iconst (v := nI 0) hx hb d_Z_spreadOut_45 (by decide) ?_
          refine wz_iast (gs' := [zo_W q az th n k (nI mu) (nI 1) 0 fd ln fm fw, zt_W q az to fo, zs_W q az sb gb, zb_W q az st sp wy (upd se1 i (nI 0))]) hx hb hK hP hD hS 3 3 (j := i) rfl rfl (by omega) (by decide) d_Z_spreadOut_46 rfl (fun H locs hP hD hS => ?_)
          refine lv_iinc (v := nI (i + 1)) (lv' := [(3, .int (nI (i + 1))), (0, .ref (az 0)), (1, .int (nI mu)), (2, .int (nI 1))]) hx hb d_Z_spreadOut_47 hl (k := 3) rfl (nI_1 i) (by decide) rfl (fun ls hl => ?_)
          refine lv_goto (tgt := 34) hx hb d_Z_spreadOut_50 (by decide) ?_
          exact ih (i + 1) (upd se1 i (nI 0)) (by omega) (by omega) (fun j hj => by
      by_cases e0 : j = i
      · subst e0; exact pk_us
      · exact (pk_un e0).trans (hz1 j (by omega))) _ _ _ hP hD hS (lv_sub hl [1, 2, 3, 0] rfl)
    exact loop1 65537 0 se (by omega) (by omega) (fun j h0 => absurd h0 (by omega)) _ _ _ hP hD hS (lv_sub hl [1, 2, 3, 0] rfl)
  refine lv_aload_n hx hb d_Z_spreadOut_0 rfl (lv_at hl 0 rfl) ?_
  refine wz_get (v := .int kn) (T := T_Z) (N := 22) hx hb hts i_Z hown hK hP 0 0 rfl rfl rfl 7 (by decide) (hts _ kw_472) rfl rfl d_Z_spreadOut_1 ?_
  refine lv_iload_n hx hb d_Z_spreadOut_4 rfl (lv_at hl 1 rfl) ?_
  refine lv_icmp_ne (tgt := 17) hx hb d_Z_spreadOut_5 (by decide) (fun hc => ?_) (fun hc => ?_)
  · skip
    exact hwork _ _ _ hP hD hS (lv_sub hl [0, 1, 2] rfl)
  · skip
    refine lv_aload_n hx hb d_Z_spreadOut_8 rfl (lv_at hl 0 rfl) ?_
    refine wz_get (v := .int bk) (T := T_Z) (N := 22) hx hb hts i_Z hown hK hP 0 0 rfl rfl rfl 8 (by decide) (hts _ kw_473) rfl rfl d_Z_spreadOut_9 ?_
    refine lv_iload_n hx hb d_Z_spreadOut_12 rfl (lv_at hl 2 rfl) ?_
    refine lv_icmp_ne (tgt := 17) hx hb d_Z_spreadOut_13 (by decide) (fun hc1 => ?_) (fun hc1 => ?_)
    · skip
      exact hwork _ _ _ hP hD hS (lv_sub hl [0, 1, 2] rfl)
    · skip
      obtain ⟨S, hsz, hZ⟩ := hkn hc hc1
      subst hc
      subst hc1
      subst hsz
      exact wz_vret hx hb hr hlocks hK hP hD hS d_Z_spreadOut_16 ⟨S, st, sp, wy, se, rfl, hZ⟩
