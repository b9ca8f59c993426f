theorem d_Z_step_0 : decode b_Z_step 0 = .ok (.aload_n 0, 1) := by decide +kernel
theorem d_Z_step_1 : decode b_Z_step 1 = .ok (.iconst 0, 1) := by decide +kernel
theorem d_Z_step_2 : decode b_Z_step 2 = .ok (.putfield 59, 3) := by decide +kernel
theorem d_Z_step_5 : decode b_Z_step 5 = .ok (.aload_n 0, 1) := by decide +kernel
theorem d_Z_step_6 : decode b_Z_step 6 = .ok (.getfield 68, 3) := by decide +kernel
theorem d_Z_step_9 : decode b_Z_step 9 = .ok (.ifCond .eq 15, 3) := by decide +kernel
theorem d_Z_step_12 : decode b_Z_step 12 = .ok (.iload_n 1, 1) := by decide +kernel
theorem d_Z_step_13 : decode b_Z_step 13 = .ok (.ifCond .lt 11, 3) := by decide +kernel
theorem d_Z_step_16 : decode b_Z_step 16 = .ok (.iload_n 1, 1) := by decide +kernel
theorem d_Z_step_17 : decode b_Z_step 17 = .ok (.aload_n 0, 1) := by decide +kernel
theorem d_Z_step_18 : decode b_Z_step 18 = .ok (.getfield 121, 3) := by decide +kernel
theorem d_Z_step_21 : decode b_Z_step 21 = .ok (.if_icmp .lt 5, 3) := by decide +kernel
theorem d_Z_step_24 : decode b_Z_step 24 = .ok (.iconst (-1), 1) := by decide +kernel
theorem d_Z_step_25 : decode b_Z_step 25 = .ok (.ireturn, 1) := by decide +kernel
theorem d_Z_step_26 : decode b_Z_step 26 = .ok (.iload_n 2, 1) := by decide +kernel
theorem d_Z_step_27 : decode b_Z_step 27 = .ok (.ifCond .eq 12, 3) := by decide +kernel
theorem d_Z_step_30 : decode b_Z_step 30 = .ok (.aload_n 0, 1) := by decide +kernel
theorem d_Z_step_31 : decode b_Z_step 31 = .ok (.getfield 44, 3) := by decide +kernel
theorem d_Z_step_34 : decode b_Z_step 34 = .ok (.iload_n 1, 1) := by decide +kernel
theorem d_Z_step_35 : decode b_Z_step 35 = .ok (.iaload, 1) := by decide +kernel
theorem d_Z_step_36 : decode b_Z_step 36 = .ok (.goto 9, 3) := by decide +kernel
theorem d_Z_step_39 : decode b_Z_step 39 = .ok (.aload_n 0, 1) := by decide +kernel
theorem d_Z_step_40 : decode b_Z_step 40 = .ok (.getfield 41, 3) := by decide +kernel
theorem d_Z_step_43 : decode b_Z_step 43 = .ok (.iload_n 1, 1) := by decide +kernel
theorem d_Z_step_44 : decode b_Z_step 44 = .ok (.iaload, 1) := by decide +kernel
theorem d_Z_step_45 : decode b_Z_step 45 = .ok (.ireturn, 1) := by decide +kernel
theorem d_Z_ways_0 : decode b_Z_ways 0 = .ok (.aload_n 0, 1) := by decide +kernel
theorem d_Z_ways_1 : decode b_Z_ways 1 = .ok (.iconst 0, 1) := by decide +kernel
theorem d_Z_ways_2 : decode b_Z_ways 2 = .ok (.putfield 59, 3) := by decide +kernel
theorem d_Z_ways_5 : decode b_Z_ways 5 = .ok (.aload_n 0, 1) := by decide +kernel
theorem d_Z_ways_6 : decode b_Z_ways 6 = .ok (.getfield 68, 3) := by decide +kernel
theorem d_Z_ways_9 : decode b_Z_ways 9 = .ok (.ifCond .eq 10, 3) := by decide +kernel
theorem d_Z_ways_12 : decode b_Z_ways 12 = .ok (.aload_n 0, 1) := by decide +kernel
theorem d_Z_ways_13 : decode b_Z_ways 13 = .ok (.getfield 124, 3) := by decide +kernel
theorem d_Z_ways_16 : decode b_Z_ways 16 = .ok (.goto 4, 3) := by decide +kernel
theorem d_Z_ways_19 : decode b_Z_ways 19 = .ok (.lconst 0, 1) := by decide +kernel
theorem d_Z_ways_20 : decode b_Z_ways 20 = .ok (.lreturn, 1) := by decide +kernel
theorem d_Z_spread_0 : decode b_Z_spread 0 = .ok (.aload_n 0, 1) := by decide +kernel
theorem d_Z_spread_1 : decode b_Z_spread 1 = .ok (.iconst 0, 1) := by decide +kernel
theorem d_Z_spread_2 : decode b_Z_spread 2 = .ok (.putfield 59, 3) := by decide +kernel
theorem d_Z_spread_5 : decode b_Z_spread 5 = .ok (.iload_n 1, 1) := by decide +kernel
theorem d_Z_spread_6 : decode b_Z_spread 6 = .ok (.invokestatic 111, 3) := by decide +kernel
theorem d_Z_spread_9 : decode b_Z_spread 9 = .ok (.ifCond .eq 7, 3) := by decide +kernel
theorem d_Z_spread_12 : decode b_Z_spread 12 = .ok (.iload_n 2, 1) := by decide +kernel
theorem d_Z_spread_13 : decode b_Z_spread 13 = .ok (.ifCond .ge 5, 3) := by decide +kernel
theorem d_Z_spread_16 : decode b_Z_spread 16 = .ok (.iconst (-1), 1) := by decide +kernel
theorem d_Z_spread_17 : decode b_Z_spread 17 = .ok (.ireturn, 1) := by decide +kernel
theorem d_Z_spread_18 : decode b_Z_spread 18 = .ok (.aload_n 0, 1) := by decide +kernel
theorem d_Z_spread_19 : decode b_Z_spread 19 = .ok (.iload_n 1, 1) := by decide +kernel
theorem d_Z_spread_20 : decode b_Z_spread 20 = .ok (.iconst 0, 1) := by decide +kernel
theorem d_Z_spread_21 : decode b_Z_spread 21 = .ok (.invokevirtual 114, 3) := by decide +kernel
theorem d_Z_spread_24 : decode b_Z_spread 24 = .ok (.iconst 0, 1) := by decide +kernel
theorem d_Z_spread_25 : decode b_Z_spread 25 = .ok (.istore_n 3, 1) := by decide +kernel
theorem d_Z_spread_26 : decode b_Z_spread 26 = .ok (.iconst 0, 1) := by decide +kernel
theorem d_Z_spread_27 : decode b_Z_spread 27 = .ok (.istore 4, 2) := by decide +kernel
theorem d_Z_spread_29 : decode b_Z_spread 29 = .ok (.iload 4, 2) := by decide +kernel
theorem d_Z_spread_31 : decode b_Z_spread 31 = .ok (.aload_n 0, 1) := by decide +kernel
theorem d_Z_spread_32 : decode b_Z_spread 32 = .ok (.getfield 87, 3) := by decide +kernel
theorem d_Z_spread_35 : decode b_Z_spread 35 = .ok (.if_icmp .ge 28, 3) := by decide +kernel
theorem d_Z_spread_38 : decode b_Z_spread 38 = .ok (.iload_n 3, 1) := by decide +kernel
theorem d_Z_spread_39 : decode b_Z_spread 39 = .ok (.aload_n 0, 1) := by decide +kernel
theorem d_Z_spread_40 : decode b_Z_spread 40 = .ok (.getfield 30, 3) := by decide +kernel
theorem d_Z_spread_43 : decode b_Z_spread 43 = .ok (.iload 4, 2) := by decide +kernel
theorem d_Z_spread_45 : decode b_Z_spread 45 = .ok (.iaload, 1) := by decide +kernel
theorem d_Z_spread_46 : decode b_Z_spread 46 = .ok (.iload_n 2, 1) := by decide +kernel
theorem d_Z_spread_47 : decode b_Z_spread 47 = .ok (.if_icmp .ne 7, 3) := by decide +kernel
theorem d_Z_spread_50 : decode b_Z_spread 50 = .ok (.iconst 1, 1) := by decide +kernel
theorem d_Z_spread_51 : decode b_Z_spread 51 = .ok (.goto 4, 3) := by decide +kernel
theorem d_Z_spread_54 : decode b_Z_spread 54 = .ok (.iconst 0, 1) := by decide +kernel
theorem d_Z_spread_55 : decode b_Z_spread 55 = .ok (.iadd, 1) := by decide +kernel
theorem d_Z_spread_56 : decode b_Z_spread 56 = .ok (.istore_n 3, 1) := by decide +kernel
theorem d_Z_spread_57 : decode b_Z_spread 57 = .ok (.iinc 4 1, 3) := by decide +kernel
theorem d_Z_spread_60 : decode b_Z_spread 60 = .ok (.goto (-31), 3) := by decide +kernel
theorem d_Z_spread_63 : decode b_Z_spread 63 = .ok (.iload_n 3, 1) := by decide +kernel
theorem d_Z_spread_64 : decode b_Z_spread 64 = .ok (.ireturn, 1) := by decide +kernel
theorem d_Z_deepest_0 : decode b_Z_deepest 0 = .ok (.aload_n 0, 1) := by decide +kernel
theorem d_Z_deepest_1 : decode b_Z_deepest 1 = .ok (.iconst 0, 1) := by decide +kernel
theorem d_Z_deepest_2 : decode b_Z_deepest 2 = .ok (.putfield 59, 3) := by decide +kernel
theorem d_Z_deepest_5 : decode b_Z_deepest 5 = .ok (.iload_n 1, 1) := by decide +kernel
theorem d_Z_deepest_6 : decode b_Z_deepest 6 = .ok (.invokestatic 111, 3) := by decide +kernel
theorem d_Z_deepest_9 : decode b_Z_deepest 9 = .ok (.ifCond .ne 5, 3) := by decide +kernel
theorem d_Z_deepest_12 : decode b_Z_deepest 12 = .ok (.iconst (-1), 1) := by decide +kernel
theorem d_Z_deepest_13 : decode b_Z_deepest 13 = .ok (.ireturn, 1) := by decide +kernel
theorem d_Z_deepest_14 : decode b_Z_deepest 14 = .ok (.aload_n 0, 1) := by decide +kernel
theorem d_Z_deepest_15 : decode b_Z_deepest 15 = .ok (.iload_n 1, 1) := by decide +kernel
theorem d_Z_deepest_16 : decode b_Z_deepest 16 = .ok (.iconst 0, 1) := by decide +kernel
theorem d_Z_deepest_17 : decode b_Z_deepest 17 = .ok (.invokevirtual 114, 3) := by decide +kernel
theorem d_Z_deepest_20 : decode b_Z_deepest 20 = .ok (.aload_n 0, 1) := by decide +kernel
theorem d_Z_deepest_21 : decode b_Z_deepest 21 = .ok (.getfield 30, 3) := by decide +kernel
theorem d_Z_deepest_24 : decode b_Z_deepest 24 = .ok (.aload_n 0, 1) := by decide +kernel
theorem d_Z_deepest_25 : decode b_Z_deepest 25 = .ok (.getfield 87, 3) := by decide +kernel
theorem d_Z_deepest_28 : decode b_Z_deepest 28 = .ok (.iconst 1, 1) := by decide +kernel
theorem d_Z_deepest_29 : decode b_Z_deepest 29 = .ok (.isub, 1) := by decide +kernel
theorem d_Z_deepest_30 : decode b_Z_deepest 30 = .ok (.iaload, 1) := by decide +kernel
theorem d_Z_deepest_31 : decode b_Z_deepest 31 = .ok (.ireturn, 1) := by decide +kernel
theorem d_Z_replay_0 : decode b_Z_replay 0 = .ok (.aload_n 0, 1) := by decide +kernel
theorem d_Z_replay_1 : decode b_Z_replay 1 = .ok (.iconst 0, 1) := by decide +kernel
theorem d_Z_replay_2 : decode b_Z_replay 2 = .ok (.putfield 59, 3) := by decide +kernel
theorem d_Z_replay_5 : decode b_Z_replay 5 = .ok (.lload_n 1, 1) := by decide +kernel
theorem d_Z_replay_6 : decode b_Z_replay 6 = .ok (.lconst 0, 1) := by decide +kernel
theorem d_Z_replay_7 : decode b_Z_replay 7 = .ok (.lcmp, 1) := by decide +kernel
theorem d_Z_replay_8 : decode b_Z_replay 8 = .ok (.ifCond .ge 5, 3) := by decide +kernel
theorem d_Z_replay_11 : decode b_Z_replay 11 = .ok (.iconst 0, 1) := by decide +kernel
theorem d_Z_replay_12 : decode b_Z_replay 12 = .ok (.ireturn, 1) := by decide +kernel
theorem d_Z_replay_13 : decode b_Z_replay 13 = .ok (.aload_n 0, 1) := by decide +kernel
theorem d_Z_replay_14 : decode b_Z_replay 14 = .ok (.invokevirtual 97, 3) := by decide +kernel
theorem d_Z_replay_17 : decode b_Z_replay 17 = .ok (.istore_n 3, 1) := by decide +kernel
theorem d_Z_replay_18 : decode b_Z_replay 18 = .ok (.lload_n 1, 1) := by decide +kernel
theorem d_Z_replay_19 : decode b_Z_replay 19 = .ok (.lstore 4, 2) := by decide +kernel
theorem d_Z_replay_21 : decode b_Z_replay 21 = .ok (.lload 4, 2) := by decide +kernel
theorem d_Z_replay_23 : decode b_Z_replay 23 = .ok (.ldc2_w 128, 3) := by decide +kernel
theorem d_Z_replay_26 : decode b_Z_replay 26 = .ok (.lrem, 1) := by decide +kernel
theorem d_Z_replay_27 : decode b_Z_replay 27 = .ok (.ldc2_w 130, 3) := by decide +kernel
theorem d_Z_replay_30 : decode b_Z_replay 30 = .ok (.lcmp, 1) := by decide +kernel
theorem d_Z_replay_31 : decode b_Z_replay 31 = .ok (.ifCond .eq 50, 3) := by decide +kernel
theorem d_Z_replay_34 : decode b_Z_replay 34 = .ok (.lload 4, 2) := by decide +kernel
theorem d_Z_replay_36 : decode b_Z_replay 36 = .ok (.ldc2_w 128, 3) := by decide +kernel
theorem d_Z_replay_39 : decode b_Z_replay 39 = .ok (.lrem, 1) := by decide +kernel
theorem d_Z_replay_40 : decode b_Z_replay 40 = .ok (.l2i, 1) := by decide +kernel
theorem d_Z_replay_41 : decode b_Z_replay 41 = .ok (.istore 6, 2) := by decide +kernel
theorem d_Z_replay_43 : decode b_Z_replay 43 = .ok (.lload 4, 2) := by decide +kernel
theorem d_Z_replay_45 : decode b_Z_replay 45 = .ok (.lconst 0, 1) := by decide +kernel
theorem d_Z_replay_46 : decode b_Z_replay 46 = .ok (.lcmp, 1) := by decide +kernel
theorem d_Z_replay_47 : decode b_Z_replay 47 = .ok (.ifCond .eq 12, 3) := by decide +kernel
theorem d_Z_replay_50 : decode b_Z_replay 50 = .ok (.aload_n 0, 1) := by decide +kernel
theorem d_Z_replay_51 : decode b_Z_replay 51 = .ok (.iload 6, 2) := by decide +kernel
theorem d_Z_replay_53 : decode b_Z_replay 53 = .ok (.invokevirtual 72, 3) := by decide +kernel
theorem d_Z_replay_56 : decode b_Z_replay 56 = .ok (.ifCond .ne 5, 3) := by decide +kernel
theorem d_Z_replay_59 : decode b_Z_replay 59 = .ok (.iconst 0, 1) := by decide +kernel
theorem d_Z_replay_60 : decode b_Z_replay 60 = .ok (.ireturn, 1) := by decide +kernel
theorem d_Z_replay_61 : decode b_Z_replay 61 = .ok (.aload_n 0, 1) := by decide +kernel
theorem d_Z_replay_62 : decode b_Z_replay 62 = .ok (.iload_n 3, 1) := by decide +kernel
theorem d_Z_replay_63 : decode b_Z_replay 63 = .ok (.iload 6, 2) := by decide +kernel
theorem d_Z_replay_65 : decode b_Z_replay 65 = .ok (.iconst 0, 1) := by decide +kernel
theorem d_Z_replay_66 : decode b_Z_replay 66 = .ok (.invokevirtual 107, 3) := by decide +kernel
theorem d_Z_replay_69 : decode b_Z_replay 69 = .ok (.istore_n 3, 1) := by decide +kernel
theorem d_Z_replay_70 : decode b_Z_replay 70 = .ok (.lload 4, 2) := by decide +kernel
theorem d_Z_replay_72 : decode b_Z_replay 72 = .ok (.ldc2_w 128, 3) := by decide +kernel
theorem d_Z_replay_75 : decode b_Z_replay 75 = .ok (.ldiv, 1) := by decide +kernel
theorem d_Z_replay_76 : decode b_Z_replay 76 = .ok (.lstore 4, 2) := by decide +kernel
theorem d_Z_replay_78 : decode b_Z_replay 78 = .ok (.goto (-57), 3) := by decide +kernel
theorem d_Z_replay_81 : decode b_Z_replay 81 = .ok (.lload 4, 2) := by decide +kernel
theorem d_Z_replay_83 : decode b_Z_replay 83 = .ok (.ldc2_w 130, 3) := by decide +kernel
theorem d_Z_replay_86 : decode b_Z_replay 86 = .ok (.lcmp, 1) := by decide +kernel
theorem d_Z_replay_87 : decode b_Z_replay 87 = .ok (.ifCond .ne 15, 3) := by decide +kernel
theorem d_Z_replay_90 : decode b_Z_replay 90 = .ok (.iload_n 3, 1) := by decide +kernel
theorem d_Z_replay_91 : decode b_Z_replay 91 = .ok (.aload_n 0, 1) := by decide +kernel
theorem d_Z_replay_92 : decode b_Z_replay 92 = .ok (.invokevirtual 93, 3) := by decide +kernel
theorem d_Z_replay_95 : decode b_Z_replay 95 = .ok (.if_icmp .ne 7, 3) := by decide +kernel
theorem d_Z_replay_98 : decode b_Z_replay 98 = .ok (.iconst 1, 1) := by decide +kernel
theorem d_Z_replay_99 : decode b_Z_replay 99 = .ok (.goto 4, 3) := by decide +kernel
theorem d_Z_replay_102 : decode b_Z_replay 102 = .ok (.iconst 0, 1) := by decide +kernel
theorem d_Z_replay_103 : decode b_Z_replay 103 = .ok (.ireturn, 1) := by decide +kernel
theorem kw_623 : (Cond.constantLong "TwoEndSearchModel" 128 8 : Cond) ∈ bigW := bigW_of 623 (by decide +kernel) (by decide +kernel)
theorem kw_624 : (Cond.constantLong "TwoEndSearchModel" 130 7 : Cond) ∈ bigW := bigW_of 624 (by decide +kernel) (by decide +kernel)
def po_Z_step (q : wz_Q) (az : Nat → Nat) (th : Int32) (n k : Nat) (kn bk : Int32) (sz : Nat) (fd : Int32) (ln : Nat) (fm : Int32) (fw : Int64) (ms ts : Nat → Int32) (x b9 : Int32) : Int32 → wz_G → Prop := fun v w => w = [zo_W q az (nI 0) n k kn bk sz fd ln fm fw, zf_W q az ms ts] ∧ (((fd = 0 ∨ ¬ ∃ j, j < ln ∧ x = nI j) ∧ v = -1) ∨ (¬ fd = 0 ∧ ∃ j, j < ln ∧ x = nI j ∧ v = if b9 = 0 then ms j else ts j))
set_option maxHeartbeats 4000000 in
set_option maxRecDepth 100000 in
/-- a step of the row found -/
theorem c_Z_step (l : Launch) (D : va_G) (q : wz_Q) (az : Nat → Nat) (th : Int32) (n k : Nat) (kn bk : Int32) (sz : Nat) (fd : Int32) (ln : Nat) (fm : Int32) (fw : Int64) (ms ts : Nat → Int32) (x b9 : Int32) (hln : ln ≤ 40320) : wz_Mi l y_Z_step ws_Z_step ({ frames := 0, cells := 0, slots := 0, locals := 0 } : Room) D q ([.ref (az 0), .int x, .int b9] : List Value) [zo_W q az th n k kn bk sz fd ln fm fw, zf_W q az ms ts] (po_Z_step q az th n k kn bk sz fd ln fm fw ms ts x b9) 0 0 := by
  intro sz9
  refine wz_enter (cc := b_Z_step) (maxL := 3) (ret := (some .int)) (Qc := fun A => (va_Qi (po_Z_step q az th n k kn bk sz fd ln fm fw ms ts x b9) (wz_At D q A) A)) (by decide) (Nat.le_of_ble_eq_true rfl) ?_
  intro p e s m below meth c A ls C hP hD hS hl
  obtain ⟨hx, hb, hr, hml, hlocks, hown, hts, hN, hK, hA, hnm⟩ := C
  have hown : s.vm.findClass "TwoEndSearchModel" = some m.cls := hown
  have hl : lv_has ls 3 [(0, .ref (az 0)), (1, .int x), (2, .int b9)] := hl
  refine lv_aload_n hx hb d_Z_step_0 rfl (lv_at hl 0 rfl) ?_
  refine lv_iconst (v := nI 0) hx hb d_Z_step_1 (by decide) ?_
  refine wz_put (gs' := [zo_W q az (nI 0) n k kn bk sz fd ln fm fw, zf_W q az ms ts]) (v := .int (nI 0)) (T := T_Z) (N := 22) hx hb hts i_Z t_Z t_Z_ok n_Z hown hK hP hD hS 0 0 rfl rfl rfl 0 (by decide) (hts _ kw_465) rfl rfl (ty := t_Z 0) (by decide +kernel) rfl rfl (Nat.le_of_ble_eq_true rfl) d_Z_step_2 rfl (fun H locs hP hD hS => ?_)
  refine lv_aload_n hx hb d_Z_step_5 rfl (lv_at hl 0 rfl) ?_
  refine wz_get (v := .int fd) (T := T_Z) (N := 22) hx hb hts i_Z hown hK hP 0 0 rfl rfl rfl 14 (by decide) (hts _ kw_479) rfl rfl d_Z_step_6 ?_
  refine lv_if_eq (tgt := 24) hx hb d_Z_step_9 (by decide) (fun hc => ?_) (fun hc => ?_)
  · skip
    refine lv_iconst (v := (-1)) hx hb d_Z_step_24 (by decide) ?_
    exact wz_iret hx hb hr hlocks hK hP hD hS d_Z_step_25 ⟨rfl, Or.inl ⟨Or.inl hc, rfl⟩⟩
  · skip
    refine lv_iload_n hx hb d_Z_step_12 rfl (lv_at hl 1 rfl) ?_
    refine lv_if_lt (tgt := 24) hx hb d_Z_step_13 (by decide) (fun hc1 => ?_) (fun hc1 => ?_)
    · skip
      refine lv_iconst (v := (-1)) hx hb d_Z_step_24 (by decide) ?_
      exact wz_iret hx hb hr hlocks hK hP hD hS d_Z_step_25 ⟨rfl, Or.inl ⟨Or.inr (fun ⟨j, hj, e0⟩ => nI_pos (by omega) (e0 ▸ hc1)), rfl⟩⟩
    · skip
      obtain ⟨j, hj, rfl⟩ := nI_of hc1
      refine lv_iload_n hx hb d_Z_step_16 rfl (lv_at hl 1 rfl) ?_
      refine lv_aload_n hx hb d_Z_step_17 rfl (lv_at hl 0 rfl) ?_
      refine wz_get (v := .int (nI ln)) (T := T_Z) (N := 22) hx hb hts i_Z hown hK hP 0 0 rfl rfl rfl 15 (by decide) (hts _ kw_480) rfl rfl d_Z_step_18 ?_
      refine wz_lt (tgt := 26) hx hb d_Z_step_21 (by decide) (by omega) (by omega) (fun hc2 => ?_) (fun hc2 => ?_)
      · skip
        refine lv_iload_n hx hb d_Z_step_26 rfl (lv_at hl 2 rfl) ?_
        refine lv_if_eq (tgt := 39) hx hb d_Z_step_27 (by decide) (fun hc3 => ?_) (fun hc3 => ?_)
        · skip
          refine lv_aload_n hx hb d_Z_step_39 rfl (lv_at hl 0 rfl) ?_
          refine wz_get (v := .ref (az 9)) (T := T_Z) (N := 22) hx hb hts i_Z hown hK hP 0 0 rfl rfl rfl 18 (by decide) (hts _ kw_482) rfl rfl d_Z_step_40 ?_
          refine lv_iload_n hx hb d_Z_step_43 rfl (lv_at hl 1 rfl) ?_
          refine wz_iald hx hb hK hP 1 0 (j := j) rfl rfl (by omega) (by decide) d_Z_step_44 ?_
          exact wz_iret hx hb hr hlocks hK hP hD hS d_Z_step_45 ⟨rfl, Or.inr ⟨hc, j, hc2, rfl, (if_pos hc3).symm⟩⟩
        · skip
          refine lv_aload_n hx hb d_Z_step_30 rfl (lv_at hl 0 rfl) ?_
          refine wz_get (v := .ref (az 10)) (T := T_Z) (N := 22) hx hb hts i_Z hown hK hP 0 0 rfl rfl rfl 19 (by decide) (hts _ kw_483) rfl rfl d_Z_step_31 ?_
          refine lv_iload_n hx hb d_Z_step_34 rfl (lv_at hl 1 rfl) ?_
          refine wz_iald hx hb hK hP 1 1 (j := j) rfl rfl (by omega) (by decide) d_Z_step_35 ?_
          refine lv_goto (tgt := 45) hx hb d_Z_step_36 (by decide) ?_
          exact wz_iret hx hb hr hlocks hK hP hD hS d_Z_step_45 ⟨rfl, Or.inr ⟨hc, j, hc2, rfl, (if_neg hc3).symm⟩⟩
      · skip
        refine lv_iconst (v := (-1)) hx hb d_Z_step_24 (by decide) ?_
        exact wz_iret hx hb hr hlocks hK hP hD hS d_Z_step_25 ⟨rfl, Or.inl ⟨Or.inr (fun ⟨j2, hj2, e0⟩ => by have := (nI_eq (by omega) (by omega)).mp e0; omega), rfl⟩⟩
def po_Z_ways (q : wz_Q) (az : Nat → Nat) (th : Int32) (n k : Nat) (kn bk : Int32) (sz : Nat) (fd : Int32) (ln : Nat) (fm : Int32) (fw : Int64) : Int64 → wz_G → Prop := fun v w => w = [zo_W q az (nI 0) n k kn bk sz fd ln fm fw] ∧ v = if fd = 0 then 0 else fw
set_option maxHeartbeats 4000000 in
set_option maxRecDepth 100000 in
/-- how many rows -/
theorem c_Z_ways (l : Launch) (D : va_G) (q : wz_Q) (az : Nat → Nat) (th : Int32) (n k : Nat) (kn bk : Int32) (sz : Nat) (fd : Int32) (ln : Nat) (fm : Int32) (fw : Int64)  : wz_Ml l y_Z_ways ws_Z_ways ({ frames := 0, cells := 0, slots := 0, locals := 0 } : Room) D q ([.ref (az 0)] : List Value) [zo_W q az th n k kn bk sz fd ln fm fw] (po_Z_ways q az th n k kn bk sz fd ln fm fw) 0 0 := by
  intro sz9
  refine wz_enter (cc := b_Z_ways) (maxL := 1) (ret := (some .long)) (Qc := fun A => (va_Ql (po_Z_ways q az th n k kn bk sz fd ln fm fw) (wz_At D q A) A)) (by decide) (Nat.le_of_ble_eq_true rfl) ?_
  intro p e s m below meth c A ls C hP hD hS hl
  obtain ⟨hx, hb, hr, hml, hlocks, hown, hts, hN, hK, hA, hnm⟩ := C
  have hown : s.vm.findClass "TwoEndSearchModel" = some m.cls := hown
  have hl : lv_has ls 1 [(0, .ref (az 0))] := hl
  refine lv_aload_n hx hb d_Z_ways_0 rfl (lv_at hl 0 rfl) ?_
  refine lv_iconst (v := nI 0) hx hb d_Z_ways_1 (by decide) ?_
  refine wz_put (gs' := [zo_W q az (nI 0) n k kn bk sz fd ln fm fw]) (v := .int (nI 0)) (T := T_Z) (N := 22) hx hb hts i_Z t_Z t_Z_ok n_Z hown hK hP hD hS 0 0 rfl rfl rfl 0 (by decide) (hts _ kw_465) rfl rfl (ty := t_Z 0) (by decide +kernel) rfl rfl (Nat.le_of_ble_eq_true rfl) d_Z_ways_2 rfl (fun H locs hP hD hS => ?_)
  refine lv_aload_n hx hb d_Z_ways_5 rfl (lv_at hl 0 rfl) ?_
  refine wz_get (v := .int fd) (T := T_Z) (N := 22) hx hb hts i_Z hown hK hP 0 0 rfl rfl rfl 14 (by decide) (hts _ kw_479) rfl rfl d_Z_ways_6 ?_
  refine lv_if_eq (tgt := 19) hx hb d_Z_ways_9 (by decide) (fun hc => ?_) (fun hc => ?_)
  · skip
    refine lv_lconst (v := 0) hx hb d_Z_ways_19 rfl ?_
    exact wz_lret hx hb hr hlocks hK hP hD hS d_Z_ways_20 ⟨rfl, (if_pos hc).symm⟩
  · skip
    refine lv_aload_n hx hb d_Z_ways_12 rfl (lv_at hl 0 rfl) ?_
    refine wz_get (v := .long fw) (T := T_Z) (N := 22) hx hb hts i_Z hown hK hP 0 0 rfl rfl rfl 17 (by decide) (hts _ kw_481) rfl rfl d_Z_ways_13 ?_
    refine lv_goto (tgt := 20) hx hb d_Z_ways_16 (by decide) ?_
    exact wz_lret hx hb hr hlocks hK hP hD hS d_Z_ways_20 ⟨rfl, (if_neg hc).symm⟩
def po_Z_spread (q : wz_Q) (az : Nat → Nat) (th : Int32) (n k : Nat) (kn bk : Int32) (sz : Nat) (fd : Int32) (ln : Nat) (fm : Int32) (fw : Int64) (to fo : Nat → Int32) (sb gb : Nat → Int32) (st sp : Nat → Int32) (wy : Nat → Int64) (se : Nat → Int32) (sg tu : Nat → Nat → Nat) (od : Nat → Nat) (sa gl : Nat) (x y : Int32) : Int32 → wz_G → Prop := fun v w => ((¬ (x = nI 0 ∨ x = nI 1) ∨ y < 0) ∧ v = -1 ∧ w = [zo_W q az (nI 0) n k kn bk sz fd ln fm fw, zt_W q az to fo, zs_W q az sb gb, zb_W q az st sp wy se]) ∨ ∃ (mu D9 : Nat) (S : pz_S) (st' sp' : Nat → Int32) (wy' : Nat → Int64) (se' : Nat → Int32), mu ≤ 1 ∧ x = nI mu ∧ D9 < 2 ^ 31 ∧ y = nI D9 ∧ zk n k 0 sg tu od mu sa S st' sp' wy' se' ∧ w = [zo_W q az (nI 0) n k (nI mu) (nI 0) S.1.length fd ln fm fw, zt_W q az to fo, zs_W q az sb gb, zb_W q az st' sp' wy' se'] ∧ v = nI (zcn S D9 S.1)
set_option maxHeartbeats 4000000 in
set_option maxRecDepth 100000 in
/-- how many lie just so far -/
theorem c_Z_spread (l : Launch) (D : va_G) (q : wz_Q) (az : Nat → Nat) (th : Int32) (n k : Nat) (kn bk : Int32) (sz : Nat) (fd : Int32) (ln : Nat) (fm : Int32) (fw : Int64) (to fo : Nat → Int32) (sb gb : Nat → Int32) (st sp : Nat → Int32) (wy : Nat → Int64) (se : Nat → Int32) (sg tu : Nat → Nat → Nat) (od : Nat → Nat) (sa gl : Nat) (x y : Int32) (hn : n ≤ 8) (hk : k ≤ 6) (hok : zm_ok n k to fo sg tu od) (hsa : zs_ok n sb sa) (hgl : zs_ok n gb gl) (hkn : ∀ mu, mu ≤ 1 → kn = nI mu → bk = nI 0 → ∃ S, sz = S.1.length ∧ zk n k 0 sg tu od mu sa S st sp wy se) : wz_Mi l y_Z_spread ws_Z_spread ({ frames := 3, cells := 0, slots := 0, locals := 72 } : Room) D q ([.ref (az 0), .int x, .int y] : List Value) [zo_W q az th n k kn bk sz fd ln fm fw, zt_W q az to fo, zs_W q az sb gb, zb_W q az st sp wy se] (po_Z_spread q az th n k kn bk sz fd ln fm fw to fo sb gb st sp wy se sg tu od sa gl x y) 0 0 := by
  intro sz9
  refine wz_enter (cc := b_Z_spread) (maxL := 5) (ret := (some .int)) (Qc := fun A => (va_Qi (po_Z_spread q az th n k kn bk sz fd ln fm fw to fo sb gb st sp wy se sg tu od sa gl x y) (wz_At D q A) A)) (by decide) (Nat.le_of_ble_eq_true rfl) ?_
  intro p e s m below meth c A ls C hP hD hS hl
  obtain ⟨hx, hb, hr, hml, hlocks, hown, hts, hN, hK, hA, hnm⟩ := C
  have hown : s.vm.findClass "TwoEndSearchModel" = some m.cls := hown
  have hl : lv_has ls 5 [(0, .ref (az 0)), (1, .int x), (2, .int y)] := hl
  refine lv_aload_n hx hb d_Z_spread_0 rfl (lv_at hl 0 rfl) ?_
  refine lv_iconst (v := nI 0) hx hb d_Z_spread_1 (by decide) ?_
  refine wz_put (gs' := [zo_W q az (nI 0) n k kn bk sz fd ln fm fw, zt_W q az to fo, zs_W q az sb gb, zb_W q az st sp wy se]) (v := .int (nI 0)) (T := T_Z) (N := 22) hx hb hts i_Z t_Z t_Z_ok n_Z hown hK hP hD hS 0 0 rfl rfl rfl 0 (by decide) (hts _ kw_465) rfl rfl (ty := t_Z 0) (by decide +kernel) rfl rfl (Nat.le_of_ble_eq_true rfl) d_Z_spread_2 rfl (fun H locs hP hD hS => ?_)
  refine lv_iload_n hx hb d_Z_spread_5 rfl (lv_at hl 1 rfl) ?_
  have hQ := wz_split (n := 4) (gc := []) (gr := [zo_W q az (nI 0) n k kn bk sz fd ln fm fw, zt_W q az to fo, zs_W q az sb gb, zb_W q az st sp wy se]) [] [0, 1, 2, 3] rfl (by decide) rfl rfl hP hD
  refine wz_calli (va_runS (As := [.int x]) (rest := []) ⟨hx, hb, hml, hown, hts⟩ (c_Z_isMeasure l D q x _) (va_cwS 1 hts (wz_goodS kw_567 kw_568 kw_37 kw_569) rfl rfl rfl (by decide +kernel) ⟨Nat.le_of_ble_eq_true rfl, Nat.le_of_ble_eq_true rfl⟩) (wz_preS hN hK hQ wz_L_ok) rfl rfl hl.1 rfl (lv_room (Nat.le_of_ble_eq_true rfl)) d_Z_spread_6 ⟨Nat.le_of_ble_eq_true rfl, Nat.le_of_ble_eq_true rfl⟩) hQ hS hA (fun v_6 gx H locs hp0 hP hD hS => ?_)
  obtain ⟨rfl, hp0⟩ := hp0
  obtain ⟨hP, hD⟩ := wz_ord (n := 4) (gs' := [zo_W q az (nI 0) n k kn bk sz fd ln fm fw, zt_W q az to fo, zs_W q az sb gb, zb_W q az st sp wy se]) [0, 1, 2, 3] rfl (by decide) rfl hP hD
  refine lv_if_eq (tgt := 16) hx hb d_Z_spread_9 (by decide) (fun hc => ?_) (fun hc => ?_)
  · skip
    refine lv_iconst (v := (-1)) hx hb d_Z_spread_16 (by decide) ?_
    exact wz_iret hx hb hr hlocks hK hP hD hS d_Z_spread_17 (Or.inl ⟨Or.inl (wz_bit_0 hp0 hc), rfl, rfl⟩)
  · skip
    obtain ⟨mu, hmu, rfl⟩ : ∃ mu, mu ≤ 1 ∧ x = nI mu := (wz_bit_1 hp0 hc).elim (fun q => ⟨0, by omega, q⟩) (fun q => ⟨1, by omega, q⟩)
    refine lv_iload_n hx hb d_Z_spread_12 rfl (lv_at hl 2 rfl) ?_
    refine lv_if_ge (tgt := 18) hx hb d_Z_spread_13 (by decide) (fun hc1 => ?_) (fun hc1 => ?_)
    · skip
      have hy0 : ¬ y < 0 := fun q => by
        have h1 := Int32.lt_iff_toInt_lt.mp q
        have h2 := Int32.le_iff_toInt_le.mp hc1
        omega
      obtain ⟨D9, hD9, rfl⟩ := nI_of hy0
      refine lv_aload_n hx hb d_Z_spread_18 rfl (lv_at hl 0 rfl) ?_
      refine lv_iload_n hx hb d_Z_spread_19 rfl (lv_at hl 1 rfl) ?_
      refine lv_iconst (v := nI 0) hx hb d_Z_spread_20 (by decide) ?_
      have hQ := wz_split (n := 4) (gc := [zo_W q az (nI 0) n k kn bk sz fd ln fm fw, zt_W q az to fo, zs_W q az sb gb, zb_W q az st sp wy se]) (gr := []) [0, 1, 2, 3] [] rfl (by decide) rfl rfl hP hD
      refine wz_callv (va_runV (As := [.int (nI mu), .int (nI 0)]) (rest := []) ⟨hx, hb, hml, hown, hts⟩ (c_Z_spreadOut0 l D q az (nI 0) n k kn bk sz fd ln fm fw to fo sb gb st sp wy se sg tu od mu sa gl hn hk hmu hok hsa hgl (hkn mu hmu) _) (cwV 2 hts (wz_goodV kw_570 kw_572 kw_21 kw_37 kw_573) rfl rfl rfl (by decide +kernel) ⟨Nat.le_of_ble_eq_true rfl, Nat.le_of_ble_eq_true rfl⟩) (wz_preV (gi := 0) (k := 0) hN hK hQ wz_L_ok rfl rfl rfl) rfl rfl hl.1 rfl (lv_room (Nat.le_of_ble_eq_true rfl)) d_Z_spread_21 ⟨Nat.le_of_ble_eq_true rfl, Nat.le_of_ble_eq_true rfl⟩) hQ hS hA (fun gx H locs hp hP hD hS => ?_)
      obtain ⟨S, st1, sp1, wy1, se1, rfl, hZ⟩ := hp
      obtain ⟨hz, hinv, hm⟩ := hZ
      have hlen := zb_len hn hz.1 hm
      have hra : pz_arr n sa sa := pz_arr_self hsa.1
      have harr := bl_s_arr (me := nI mu) (a0 := sa) (zm_mv hk hok) hk (fw := 0) (by decide)
      obtain ⟨hP, hD⟩ := wz_ord (n := 4) (gs' := [zo_W q az (nI 0) n k (nI mu) (nI 0) S.1.length fd ln fm fw, zt_W q az to fo, zs_W q az sb gb, zb_W q az st1 sp1 wy1 se1]) [0, 1, 2, 3] rfl (by decide) rfl hP hD
      refine lv_iconst (v := nI 0) hx hb d_Z_spread_24 (by decide) ?_
      refine lv_istore_n (lv' := [(3, .int (nI 0)), (0, .ref (az 0)), (1, .int (nI mu)), (2, .int (nI D9))]) hx hb d_Z_spread_25 rfl hl (by decide) rfl (fun ls hl => ?_)
      refine lv_iconst (v := nI 0) hx hb d_Z_spread_26 (by decide) ?_
      refine lv_istore (lv' := [(4, .int (nI 0)), (3, .int (nI 0)), (0, .ref (az 0)), (1, .int (nI mu)), (2, .int (nI D9))]) hx hb d_Z_spread_27 hl (by decide) rfl (fun ls hl => ?_)
      have loop : ∀ (d : Nat) (i : Nat), i ≤ S.1.length → S.1.length + 1 ≤ i + d → ∀ (H : Heap) (locs : List Loc) (ls : Array Slot), va_P D vwCl ([zo_W q az (nI 0) n k (nI mu) (nI 0) S.1.length fd ln fm fw, zt_W q az to fo, zs_W q az sb gb, zb_W q az st1 sp1 wy1 se1] : wz_G).flatten H → va_D A ([zo_W q az (nI 0) n k (nI mu) (nI 0) S.1.length fd ln fm fw, zt_W q az to fo, zs_W q az sb gb, zb_W q az st1 sp1 wy1 se1] : wz_G).flatten → va_S A s.heap H locs → lv_has ls 5 [(0, .ref (az 0)), (1, .int (nI mu)), (2, .int (nI D9)), (3, .int (nI (zcn S D9 (S.1.take i)))), (4, .int (nI i))] → W p l e ({ frames := 3, cells := 0, slots := 0, locals := 72 } : Room) s m ([.ref (az 0), .int (nI mu), .int (nI D9)] : List Value).toArray below meth c H locs 0 0 (MQ below (va_Qi (po_Z_spread q az th n k kn bk sz fd ln fm fw to fo sb gb st sp wy se sg tu od sa gl (nI mu) (nI D9)) (wz_At D q A) A) ([.ref (az 0), .int (nI mu), .int (nI D9)] : List Value).toArray s 0 0 A) (F0 m 29 ls []) := by
        intro d
        induction d with
        | zero =>
          intro i hi hd
          omega
        | succ d ih =>
          intro i hi hd H locs ls hP hD hS hl
          refine lv_iload hx hb d_Z_spread_29 (lv_at hl 4 rfl) ?_
          refine lv_aload_n hx hb d_Z_spread_31 rfl (lv_at hl 0 rfl) ?_
          refine wz_get (v := .int (nI S.1.length)) (T := T_Z) (N := 22) hx hb hts i_Z hown hK hP 0 0 rfl rfl rfl 9 (by decide) (hts _ kw_474) rfl rfl d_Z_spread_32 ?_
          refine wz_ge (tgt := 63) hx hb d_Z_spread_35 (by decide) (by omega) (by omega) (fun hc2 => ?_) (fun hc2 => ?_)
          · skip
            have hie : i = S.1.length := by omega
            subst hie
            refine lv_iload_n hx hb d_Z_spread_63 rfl (lv_at hl 3 rfl) ?_
            exact wz_iret hx hb hr hlocks hK hP hD hS d_Z_spread_64 (Or.inr ⟨mu, D9, S, st1, sp1, wy1, se1, hmu, rfl, hD9, rfl, ⟨hz, hinv, hm⟩, rfl, by rw [zcn_all]⟩)
          · skip
            obtain ⟨x9, hx9⟩ : ∃ x, S.1[i]? = some x := ⟨_, List.getElem?_eq_getElem hc2⟩
            obtain ⟨e9, he9⟩ := pz_mem_far hz.1 (List.mem_of_getElem? hx9)
            have he9l := zk_far hn harr hra hinv he9
            have hcs := zcn_s (S := S) (D := D9) hx9
            refine lv_iload_n hx hb d_Z_spread_38 rfl (lv_at hl 3 rfl) ?_
            refine lv_aload_n hx hb d_Z_spread_39 rfl (lv_at hl 0 rfl) ?_
            refine wz_get (v := .ref (az 6)) (T := T_Z) (N := 22) hx hb hts i_Z hown hK hP 0 0 rfl rfl rfl 11 (by decide) (hts _ kw_476) rfl rfl d_Z_spread_40 ?_
            refine lv_iload hx hb d_Z_spread_43 (lv_at hl 4 rfl) ?_
            refine wz_iald hx hb hK hP 3 1 (j := i) rfl rfl (by omega) (by decide) d_Z_spread_45 ?_
            refine wz_topi (y := nI e9) (zb_far hz hx9 he9) ?_
            refine lv_iload_n hx hb d_Z_spread_46 rfl (lv_at hl 2 rfl) ?_
            refine wz_ne (tgt := 54) hx hb d_Z_spread_47 (by decide) (by omega) (by omega) (fun hc3 => ?_) (fun hc3 => ?_)
            · skip
              rw [if_neg (fun q => hc3 (Option.some.inj (he9.symm.trans q)))] at hcs
              refine lv_iconst (v := nI 0) hx hb d_Z_spread_54 (by decide) ?_
              refine lv_iadd hx hb d_Z_spread_55 ?_
              refine wz_topi (y := nI (zcn S D9 (S.1.take (i + 1)))) ((nI_add _ 0).trans (congrArg nI hcs.symm)) ?_
              refine lv_istore_n (lv' := [(3, .int (nI (zcn S D9 (S.1.take (i + 1))))), (0, .ref (az 0)), (1, .int (nI mu)), (2, .int (nI D9)), (4, .int (nI i))]) hx hb d_Z_spread_56 rfl hl (by decide) rfl (fun ls hl => ?_)
              refine lv_iinc (v := nI (i + 1)) (lv' := [(4, .int (nI (i + 1))), (3, .int (nI (zcn S D9 (S.1.take (i + 1))))), (0, .ref (az 0)), (1, .int (nI mu)), (2, .int (nI D9))]) hx hb d_Z_spread_57 hl (k := 4) rfl (nI_1 i) (by decide) rfl (fun ls hl => ?_)
              refine lv_goto (tgt := 29) hx hb d_Z_spread_60 (by decide) ?_
              exact ih (i + 1) (by omega) (by omega) _ _ _ hP hD hS (lv_sub hl [2, 3, 4, 1, 0] rfl)
            · skip
              rw [if_pos (by rw [he9, hc3])] at hcs
              refine lv_iconst (v := nI 1) hx hb d_Z_spread_50 (by decide) ?_
              refine lv_goto (tgt := 55) hx hb d_Z_spread_51 (by decide) ?_
              refine lv_iadd hx hb d_Z_spread_55 ?_
              refine wz_topi (y := nI (zcn S D9 (S.1.take (i + 1)))) ((nI_add _ 1).trans (congrArg nI hcs.symm)) ?_
              refine lv_istore_n (lv' := [(3, .int (nI (zcn S D9 (S.1.take (i + 1))))), (0, .ref (az 0)), (1, .int (nI mu)), (2, .int (nI D9)), (4, .int (nI i))]) hx hb d_Z_spread_56 rfl hl (by decide) rfl (fun ls hl => ?_)
              refine lv_iinc (v := nI (i + 1)) (lv' := [(4, .int (nI (i + 1))), (3, .int (nI (zcn S D9 (S.1.take (i + 1))))), (0, .ref (az 0)), (1, .int (nI mu)), (2, .int (nI D9))]) hx hb d_Z_spread_57 hl (k := 4) rfl (nI_1 i) (by decide) rfl (fun ls hl => ?_)
              refine lv_goto (tgt := 29) hx hb d_Z_spread_60 (by decide) ?_
              exact ih (i + 1) (by omega) (by omega) _ _ _ hP hD hS (lv_sub hl [2, 3, 4, 1, 0] rfl)
      exact loop (S.1.length + 1) 0 (by omega) (by omega) _ _ _ hP hD hS (lv_sub hl [2, 3, 4, 1, 0] rfl)
    · skip
      refine lv_iconst (v := (-1)) hx hb d_Z_spread_16 (by decide) ?_
      exact wz_iret hx hb hr hlocks hK hP hD hS d_Z_spread_17 (Or.inl ⟨Or.inr (by
      have h1 : ¬ (0 : Int32) ≤ y := hc1
      rw [Int32.le_iff_toInt_le] at h1
      rw [Int32.lt_iff_toInt_lt]
      omega), rfl, rfl⟩)
def po_Z_deepest (q : wz_Q) (az : Nat → Nat) (th : Int32) (n k : Nat) (kn bk : Int32) (sz : Nat) (fd : Int32) (ln : Nat) (fm : Int32) (fw : Int64) (to fo : Nat → Int32) (sb gb : Nat → Int32) (st sp : Nat → Int32) (wy : Nat → Int64) (se : Nat → Int32) (sg tu : Nat → Nat → Nat) (od : Nat → Nat) (sa gl : Nat) (x : Int32) : Int32 → wz_G → Prop := fun v w => ((¬ (x = nI 0 ∨ x = nI 1)) ∧ v = -1 ∧ w = [zo_W q az (nI 0) n k kn bk sz fd ln fm fw, zt_W q az to fo, zs_W q az sb gb, zb_W q az st sp wy se]) ∨ ∃ (mu : Nat) (S : pz_S) (st' sp' : Nat → Int32) (wy' : Nat → Int64) (se' : Nat → Int32), mu ≤ 1 ∧ x = nI mu ∧ zk n k 0 sg tu od mu sa S st' sp' wy' se' ∧ w = [zo_W q az (nI 0) n k (nI mu) (nI 0) S.1.length fd ln fm fw, zt_W q az to fo, zs_W q az sb gb, zb_W q az st' sp' wy' se'] ∧ ∃ y9 d9, S.1[S.1.length - 1]? = some y9 ∧ S.2.1 y9 = some d9 ∧ v = nI d9
set_option maxHeartbeats 4000000 in
set_option maxRecDepth 100000 in
/-- how far the farthest lie -/
theorem c_Z_deepest (l : Launch) (D : va_G) (q : wz_Q) (az : Nat → Nat) (th : Int32) (n k : Nat) (kn bk : Int32) (sz : Nat) (fd : Int32) (ln : Nat) (fm : Int32) (fw : Int64) (to fo : Nat → Int32) (sb gb : Nat → Int32) (st sp : Nat → Int32) (wy : Nat → Int64) (se : Nat → Int32) (sg tu : Nat → Nat → Nat) (od : Nat → Nat) (sa gl : Nat) (x : Int32) (hn : n ≤ 8) (hk : k ≤ 6) (hok : zm_ok n k to fo sg tu od) (hsa : zs_ok n sb sa) (hgl : zs_ok n gb gl) (hkn : ∀ mu, mu ≤ 1 → kn = nI mu → bk = nI 0 → ∃ S, sz = S.1.length ∧ zk n k 0 sg tu od mu sa S st sp wy se) : wz_Mi l y_Z_deepest ws_Z_deepest ({ frames := 3, cells := 0, slots := 0, locals := 72 } : Room) D q ([.ref (az 0), .int x] : List Value) [zo_W q az th n k kn bk sz fd ln fm fw, zt_W q az to fo, zs_W q az sb gb, zb_W q az st sp wy se] (po_Z_deepest q az th n k kn bk sz fd ln fm fw to fo sb gb st sp wy se sg tu od sa gl x) 0 0 := by
  intro sz9
  refine wz_enter (cc := b_Z_deepest) (maxL := 2) (ret := (some .int)) (Qc := fun A => (va_Qi (po_Z_deepest q az th n k kn bk sz fd ln fm fw to fo sb gb st sp wy se sg tu od sa gl x) (wz_At D q A) A)) (by decide) (Nat.le_of_ble_eq_true rfl) ?_
  intro p e s m below meth c A ls C hP hD hS hl
  obtain ⟨hx, hb, hr, hml, hlocks, hown, hts, hN, hK, hA, hnm⟩ := C
  have hown : s.vm.findClass "TwoEndSearchModel" = some m.cls := hown
  have hl : lv_has ls 2 [(0, .ref (az 0)), (1, .int x)] := hl
  refine lv_aload_n hx hb d_Z_deepest_0 rfl (lv_at hl 0 rfl) ?_
  refine lv_iconst (v := nI 0) hx hb d_Z_deepest_1 (by decide) ?_
  refine wz_put (gs' := [zo_W q az (nI 0) n k kn bk sz fd ln fm fw, zt_W q az to fo, zs_W q az sb gb, zb_W q az st sp wy se]) (v := .int (nI 0)) (T := T_Z) (N := 22) hx hb hts i_Z t_Z t_Z_ok n_Z hown hK hP hD hS 0 0 rfl rfl rfl 0 (by decide) (hts _ kw_465) rfl rfl (ty := t_Z 0) (by decide +kernel) rfl rfl (Nat.le_of_ble_eq_true rfl) d_Z_deepest_2 rfl (fun H locs hP hD hS => ?_)
  refine lv_iload_n hx hb d_Z_deepest_5 rfl (lv_at hl 1 rfl) ?_
  have hQ := wz_split (n := 4) (gc := []) (gr := [zo_W q az (nI 0) n k kn bk sz fd ln fm fw, zt_W q az to fo, zs_W q az sb gb, zb_W q az st sp wy se]) [] [0, 1, 2, 3] rfl (by decide) rfl rfl hP hD
  refine wz_calli (va_runS (As := [.int x]) (rest := []) ⟨hx, hb, hml, hown, hts⟩ (c_Z_isMeasure l D q x _) (va_cwS 1 hts (wz_goodS kw_567 kw_568 kw_37 kw_569) rfl rfl rfl (by decide +kernel) ⟨Nat.le_of_ble_eq_true rfl, Nat.le_of_ble_eq_true rfl⟩) (wz_preS hN hK hQ wz_L_ok) rfl rfl hl.1 rfl (lv_room (Nat.le_of_ble_eq_true rfl)) d_Z_deepest_6 ⟨Nat.le_of_ble_eq_true rfl, Nat.le_of_ble_eq_true rfl⟩) hQ hS hA (fun v_6 gx H locs hp0 hP hD hS => ?_)
  obtain ⟨rfl, hp0⟩ := hp0
  obtain ⟨hP, hD⟩ := wz_ord (n := 4) (gs' := [zo_W q az (nI 0) n k kn bk sz fd ln fm fw, zt_W q az to fo, zs_W q az sb gb, zb_W q az st sp wy se]) [0, 1, 2, 3] rfl (by decide) rfl hP hD
  refine lv_if_ne (tgt := 14) hx hb d_Z_deepest_9 (by decide) (fun hc => ?_) (fun hc => ?_)
  · skip
    obtain ⟨mu, hmu, rfl⟩ : ∃ mu, mu ≤ 1 ∧ x = nI mu := (wz_bit_1 hp0 hc).elim (fun q => ⟨0, by omega, q⟩) (fun q => ⟨1, by omega, q⟩)
    refine lv_aload_n hx hb d_Z_deepest_14 rfl (lv_at hl 0 rfl) ?_
    refine lv_iload_n hx hb d_Z_deepest_15 rfl (lv_at hl 1 rfl) ?_
    refine lv_iconst (v := nI 0) hx hb d_Z_deepest_16 (by decide) ?_
    have hQ := wz_split (n := 4) (gc := [zo_W q az (nI 0) n k kn bk sz fd ln fm fw, zt_W q az to fo, zs_W q az sb gb, zb_W q az st sp wy se]) (gr := []) [0, 1, 2, 3] [] rfl (by decide) rfl rfl hP hD
    refine wz_callv (va_runV (As := [.int (nI mu), .int (nI 0)]) (rest := []) ⟨hx, hb, hml, hown, hts⟩ (c_Z_spreadOut0 l D q az (nI 0) n k kn bk sz fd ln fm fw to fo sb gb st sp wy se sg tu od mu sa gl hn hk hmu hok hsa hgl (hkn mu hmu) _) (cwV 2 hts (wz_goodV kw_570 kw_572 kw_21 kw_37 kw_573) rfl rfl rfl (by decide +kernel) ⟨Nat.le_of_ble_eq_true rfl, Nat.le_of_ble_eq_true rfl⟩) (wz_preV (gi := 0) (k := 0) hN hK hQ wz_L_ok rfl rfl rfl) rfl rfl hl.1 rfl (lv_room (Nat.le_of_ble_eq_true rfl)) d_Z_deepest_17 ⟨Nat.le_of_ble_eq_true rfl, Nat.le_of_ble_eq_true rfl⟩) hQ hS hA (fun gx H locs hp hP hD hS => ?_)
    obtain ⟨S, st1, sp1, wy1, se1, rfl, hZ⟩ := hp
    obtain ⟨hz, hinv, hm⟩ := hZ
    have hlen := zb_len hn hz.1 hm
    have hra : pz_arr n sa sa := pz_arr_self hsa.1
    have harr := bl_s_arr (me := nI mu) (a0 := sa) (zm_mv hk hok) hk (fw := 0) (by decide)
    have h0m := pz_far_mem hz.1 hinv.2.1
    have h0l := List.length_pos_of_mem h0m
    obtain ⟨y9, hy9⟩ : ∃ y, S.1[S.1.length - 1]? = some y := ⟨_, List.getElem?_eq_getElem (by omega)⟩
    obtain ⟨d9, hd9⟩ := pz_mem_far hz.1 (List.mem_of_getElem? hy9)
    obtain ⟨hP, hD⟩ := wz_ord (n := 4) (gs' := [zo_W q az (nI 0) n k (nI mu) (nI 0) S.1.length fd ln fm fw, zt_W q az to fo, zs_W q az sb gb, zb_W q az st1 sp1 wy1 se1]) [0, 1, 2, 3] rfl (by decide) rfl hP hD
    refine lv_aload_n hx hb d_Z_deepest_20 rfl (lv_at hl 0 rfl) ?_
    refine wz_get (v := .ref (az 6)) (T := T_Z) (N := 22) hx hb hts i_Z hown hK hP 0 0 rfl rfl rfl 11 (by decide) (hts _ kw_476) rfl rfl d_Z_deepest_21 ?_
    refine lv_aload_n hx hb d_Z_deepest_24 rfl (lv_at hl 0 rfl) ?_
    refine wz_get (v := .int (nI S.1.length)) (T := T_Z) (N := 22) hx hb hts i_Z hown hK hP 0 0 rfl rfl rfl 9 (by decide) (hts _ kw_474) rfl rfl d_Z_deepest_25 ?_
    refine lv_iconst (v := nI 1) hx hb d_Z_deepest_28 (by decide) ?_
    refine lv_isub hx hb d_Z_deepest_29 ?_
    refine wz_topi (y := nI (S.1.length - 1)) (pk_sub (by omega)) ?_
    refine wz_iald hx hb hK hP 3 1 (j := (S.1.length - 1)) rfl rfl (by omega) (by decide) d_Z_deepest_30 ?_
    refine wz_topi (y := nI d9) (zb_far hz hy9 hd9) ?_
    exact wz_iret hx hb hr hlocks hK hP hD hS d_Z_deepest_31 (Or.inr ⟨mu, S, st1, sp1, wy1, se1, hmu, rfl, ⟨hz, hinv, hm⟩, rfl, y9, d9, hy9, hd9, rfl⟩)
  · skip
    refine lv_iconst (v := (-1)) hx hb d_Z_deepest_12 (by decide) ?_
    exact wz_iret hx hb hr hlocks hK hP hD hS d_Z_deepest_13 (Or.inl ⟨wz_bit_0 hp0 hc, rfl, rfl⟩)
def po_Z_replay (q : wz_Q) (az : Nat → Nat) (th : Int32) (n k : Nat) (kn bk : Int32) (sz : Nat) (fd : Int32) (ln : Nat) (fm : Int32) (fw : Int64) (to fo : Nat → Int32) (sb gb : Nat → Int32) (sg tu : Nat → Nat → Nat) (od : Nat → Nat) (sa gl : Nat) (x : Int64) : Int32 → wz_G → Prop := fun v w => w = [zo_W q az (nI 0) n k kn bk sz fd ln fm fw, zt_W q az to fo, zs_W q az sb gb] ∧ ((x < 0 ∧ v = 0) ∨ ∃ r9, r9 < 2 ^ 63 ∧ x = lN r9 ∧ wz_bit v (zrep k (fun m => pz_act n (tu m)) gl 21 r9 sa))
set_option maxHeartbeats 4000000 in
set_option maxRecDepth 100000 in
/-- does a row lead from start to goal -/
theorem c_Z_replay (l : Launch) (D : va_G) (q : wz_Q) (az : Nat → Nat) (th : Int32) (n k : Nat) (kn bk : Int32) (sz : Nat) (fd : Int32) (ln : Nat) (fm : Int32) (fw : Int64) (to fo : Nat → Int32) (sb gb : Nat → Int32) (sg tu : Nat → Nat → Nat) (od : Nat → Nat) (sa gl : Nat) (x : Int64) (hn : n ≤ 8) (hk : k ≤ 6) (hok : zm_ok n k to fo sg tu od) (hsa : zs_ok n sb sa) (hgl : zs_ok n gb gl) : wz_Mi l y_Z_replay ws_Z_replay ({ frames := 1, cells := 0, slots := 0, locals := 26 } : Room) D q ([.ref (az 0), .long x] : List Value) [zo_W q az th n k kn bk sz fd ln fm fw, zt_W q az to fo, zs_W q az sb gb] (po_Z_replay q az th n k kn bk sz fd ln fm fw to fo sb gb sg tu od sa gl x) 0 0 := by
  intro sz9
  refine wz_enter (cc := b_Z_replay) (maxL := 7) (ret := (some .boolean)) (Qc := fun A => (va_Qi (po_Z_replay q az th n k kn bk sz fd ln fm fw to fo sb gb sg tu od sa gl x) (wz_At D q A) A)) (by decide) (Nat.le_of_ble_eq_true rfl) ?_
  intro p e s m below meth c A ls C hP hD hS hl
  obtain ⟨hx, hb, hr, hml, hlocks, hown, hts, hN, hK, hA, hnm⟩ := C
  have hown : s.vm.findClass "TwoEndSearchModel" = some m.cls := hown
  have hl : lv_has ls 7 [(0, .ref (az 0)), (1, .long x)] := hl
  refine lv_aload_n hx hb d_Z_replay_0 rfl (lv_at hl 0 rfl) ?_
  refine lv_iconst (v := nI 0) hx hb d_Z_replay_1 (by decide) ?_
  refine wz_put (gs' := [zo_W q az (nI 0) n k kn bk sz fd ln fm fw, zt_W q az to fo, zs_W q az sb gb]) (v := .int (nI 0)) (T := T_Z) (N := 22) hx hb hts i_Z t_Z t_Z_ok n_Z hown hK hP hD hS 0 0 rfl rfl rfl 0 (by decide) (hts _ kw_465) rfl rfl (ty := t_Z 0) (by decide +kernel) rfl rfl (Nat.le_of_ble_eq_true rfl) d_Z_replay_2 rfl (fun H locs hP hD hS => ?_)
  refine lv_lload_n hx hb d_Z_replay_5 rfl (lv_at hl 1 rfl) ?_
  refine lv_lconst (v := 0) hx hb d_Z_replay_6 rfl ?_
  refine W.lcmp hx hb d_Z_replay_7 ?_
  refine lv_if_ge (tgt := 13) hx hb d_Z_replay_8 (by decide) (fun hc => ?_) (fun hc => ?_)
  · skip
    obtain ⟨r9, hr9, rfl⟩ := pk_lOf (wz_cmp_ge0.mp hc)
    refine lv_aload_n hx hb d_Z_replay_13 rfl (lv_at hl 0 rfl) ?_
    have hQ := wz_split (n := 3) (gc := [zo_W q az (nI 0) n k kn bk sz fd ln fm fw, zs_W q az sb gb]) (gr := [zt_W q az to fo]) [0, 2] [1] rfl (by decide) rfl rfl hP hD
    refine wz_calli (va_runV (As := []) (rest := []) ⟨hx, hb, hml, hown, hts⟩ (c_Z_codeOfStart l D q az (nI 0) n k kn bk sz fd ln fm fw sb gb sa hn hsa _) (cwV 0 hts (wz_goodV kw_578 kw_580 kw_23 kw_37 kw_581) rfl rfl rfl (by decide +kernel) ⟨Nat.le_of_ble_eq_true rfl, Nat.le_of_ble_eq_true rfl⟩) (wz_preV (gi := 0) (k := 0) hN hK hQ wz_L_ok rfl rfl rfl) rfl rfl hl.1 rfl (lv_room (Nat.le_of_ble_eq_true rfl)) d_Z_replay_14 ⟨Nat.le_of_ble_eq_true rfl, Nat.le_of_ble_eq_true rfl⟩) hQ hS hA (fun v_14 gx H locs hp hP hD hS => ?_)
    obtain ⟨rfl, rfl⟩ := hp
    obtain ⟨hP, hD⟩ := wz_ord (n := 3) (gs' := [zo_W q az (nI 0) n k kn bk sz fd ln fm fw, zt_W q az to fo, zs_W q az sb gb]) [0, 2, 1] rfl (by decide) rfl hP hD
    refine lv_istore_n (lv' := [(3, .int (nI sa)), (0, .ref (az 0)), (1, .long (lN r9))]) hx hb d_Z_replay_17 rfl hl (by decide) rfl (fun ls hl => ?_)
    refine lv_lload_n hx hb d_Z_replay_18 rfl (lv_at hl 2 rfl) ?_
    refine lv_lstore (lv' := [(4, .long (lN r9)), (3, .int (nI sa)), (0, .ref (az 0)), (1, .long (lN r9))]) hx hb d_Z_replay_19 hl (by decide) rfl (fun ls hl => ?_)
    have loop : ∀ (d : Nat) (f9 u9 c9 : Nat), f9 ≤ 21 → f9 + 1 ≤ d → u9 < 8 ^ f9 → c9 < 8 ^ n → (zrep k (fun m => pz_act n (tu m)) gl 21 r9 sa ↔ zrep k (fun m => pz_act n (tu m)) gl f9 u9 c9) → ∀ (H : Heap) (locs : List Loc) (ls : Array Slot), va_P D vwCl ([zo_W q az (nI 0) n k kn bk sz fd ln fm fw, zt_W q az to fo, zs_W q az sb gb] : wz_G).flatten H → va_D A ([zo_W q az (nI 0) n k kn bk sz fd ln fm fw, zt_W q az to fo, zs_W q az sb gb] : wz_G).flatten → va_S A s.heap H locs → lv_has ls 7 [(0, .ref (az 0)), (1, .long (lN r9)), (3, .int (nI c9)), (4, .long (lN u9))] → W p l e ({ frames := 1, cells := 0, slots := 0, locals := 26 } : Room) s m ([.ref (az 0), .long (lN r9)] : List Value).toArray below meth c H locs 0 0 (MQ below (va_Qi (po_Z_replay q az th n k kn bk sz fd ln fm fw to fo sb gb sg tu od sa gl (lN r9)) (wz_At D q A) A) ([.ref (az 0), .long (lN r9)] : List Value).toArray s 0 0 A) (F0 m 21 ls []) := by
      intro d
      induction d with
      | zero =>
        intro f9 u9 c9 hf hd hu hc8 heq
        omega
      | succ d ih =>
        intro f9 u9 c9 hf hd hu hc8 heq H locs ls hP hD hS hl
        have hu63 : u9 < 2 ^ 63 := Nat.lt_of_lt_of_le hu (by
          have : 8 ^ f9 ≤ 8 ^ 21 := Nat.pow_le_pow_right (by decide) hf
          exact Nat.le_trans this (by decide))
        have hum : u9 % 8 < 8 := Nat.mod_lt _ (by decide)
        refine lv_lload hx hb d_Z_replay_21 (lv_at hl 3 rfl) ?_
        refine lv_ldc2 (v := (8)) hx hb hown (hts _ kw_623) d_Z_replay_23 ?_
        refine lv_lrem hx hb d_Z_replay_26 (by decide) ?_
        refine wz_topl (y := lN (u9 % 8)) (show lN u9 - lN u9 / lN 8 * lN 8 = _ from pk_lRem hu63 (by decide) (by decide)) ?_
        refine lv_ldc2 (v := (7)) hx hb hown (hts _ kw_624) d_Z_replay_27 ?_
        refine W.lcmp hx hb d_Z_replay_30 ?_
        refine lv_if_eq (tgt := 81) hx hb d_Z_replay_31 (by decide) (fun hc2 => ?_) (fun hc2 => ?_)
        · skip
          have h7 : u9 % 8 = 7 := (wz_cmp_eq (b := 7) (by omega) (by decide)).mp hc2
          obtain ⟨f8, rfl⟩ : ∃ f8, f9 = f8 + 1 := ⟨f9 - 1, by
            cases f9 with
            | zero => have : u9 < 1 := hu; omega
            | succ f8 => omega⟩
          have hE := heq.trans (zrep_end h7)
          have hc24 := pz_lt31 hn hc8
          have hg24 := pz_lt31 hn hgl.1
          refine lv_lload hx hb d_Z_replay_81 (lv_at hl 3 rfl) ?_
          refine lv_ldc2 (v := (7)) hx hb hown (hts _ kw_624) d_Z_replay_83 ?_
          refine W.lcmp hx hb d_Z_replay_86 ?_
          refine lv_if_ne (tgt := 102) hx hb d_Z_replay_87 (by decide) (fun hc3 => ?_) (fun hc3 => ?_)
          · skip
            refine lv_iconst (v := nI 0) hx hb d_Z_replay_102 (by decide) ?_
            exact wz_zret hx hb hr hlocks hK hP hD hS d_Z_replay_103 (by first | exact Or.inl rfl | exact Or.inr rfl) ⟨rfl, Or.inr ⟨r9, hr9, rfl, Or.inr ⟨rfl, fun q => hc3 ((wz_cmp_eq (b := 7) hu63 (by decide)).mpr (by have := (hE.mp q).1; omega))⟩⟩⟩
          · skip
            refine lv_iload_n hx hb d_Z_replay_90 rfl (lv_at hl 2 rfl) ?_
            refine lv_aload_n hx hb d_Z_replay_91 rfl (lv_at hl 0 rfl) ?_
            have hQ := wz_split (n := 3) (gc := [zo_W q az (nI 0) n k kn bk sz fd ln fm fw, zs_W q az sb gb]) (gr := [zt_W q az to fo]) [0, 2] [1] rfl (by decide) rfl rfl hP hD
            refine wz_calli (va_runV (As := []) (rest := [.int (nI c9)]) ⟨hx, hb, hml, hown, hts⟩ (c_Z_codeOfGoal l D q az (nI 0) n k kn bk sz fd ln fm fw sb gb gl hn hgl _) (cwV 0 hts (wz_goodV kw_574 kw_576 kw_22 kw_37 kw_577) rfl rfl rfl (by decide +kernel) ⟨Nat.le_of_ble_eq_true rfl, Nat.le_of_ble_eq_true rfl⟩) (wz_preV (gi := 0) (k := 0) hN hK hQ wz_L_ok rfl rfl rfl) rfl rfl hl.1 rfl (lv_room (Nat.le_of_ble_eq_true rfl)) d_Z_replay_92 ⟨Nat.le_of_ble_eq_true rfl, Nat.le_of_ble_eq_true rfl⟩) hQ hS hA (fun v_92 gx H locs hp hP hD hS => ?_)
            obtain ⟨rfl, rfl⟩ := hp
            have h70 : u9 = 7 := (wz_cmp_eq (b := 7) hu63 (by decide)).mp hc3
            obtain ⟨hP, hD⟩ := wz_ord (n := 3) (gs' := [zo_W q az (nI 0) n k kn bk sz fd ln fm fw, zt_W q az to fo, zs_W q az sb gb]) [0, 2, 1] rfl (by decide) rfl hP hD
            refine wz_ne (tgt := 102) hx hb d_Z_replay_95 (by decide) (by omega) (by omega) (fun hc4 => ?_) (fun hc4 => ?_)
            · skip
              refine lv_iconst (v := nI 0) hx hb d_Z_replay_102 (by decide) ?_
              exact wz_zret hx hb hr hlocks hK hP hD hS d_Z_replay_103 (by first | exact Or.inl rfl | exact Or.inr rfl) ⟨rfl, Or.inr ⟨r9, hr9, rfl, Or.inr ⟨rfl, fun q => hc4 (hE.mp q).2⟩⟩⟩
            · skip
              refine lv_iconst (v := nI 1) hx hb d_Z_replay_98 (by decide) ?_
              refine lv_goto (tgt := 103) hx hb d_Z_replay_99 (by decide) ?_
              exact wz_zret hx hb hr hlocks hK hP hD hS d_Z_replay_103 (by first | exact Or.inl rfl | exact Or.inr rfl) ⟨rfl, Or.inr ⟨r9, hr9, rfl, Or.inl ⟨rfl, hE.mpr ⟨by omega, hc4⟩⟩⟩⟩
        · skip
          have h7 : u9 % 8 ≠ 7 := fun q => hc2 ((wz_cmp_eq (b := 7) (by omega) (by decide)).mpr q)
          refine lv_lload hx hb d_Z_replay_34 (lv_at hl 3 rfl) ?_
          refine lv_ldc2 (v := (8)) hx hb hown (hts _ kw_623) d_Z_replay_36 ?_
          refine lv_lrem hx hb d_Z_replay_39 (by decide) ?_
          refine wz_topl (y := lN (u9 % 8)) (show lN u9 - lN u9 / lN 8 * lN 8 = _ from pk_lRem hu63 (by decide) (by decide)) ?_
          refine lv_l2i (v := nI (u9 % 8)) hx hb d_Z_replay_40 (lN_i _) ?_
          refine lv_istore (lv' := [(6, .int (nI (u9 % 8))), (0, .ref (az 0)), (1, .long (lN r9)), (3, .int (nI c9)), (4, .long (lN u9))]) hx hb d_Z_replay_41 hl (by decide) rfl (fun ls hl => ?_)
          refine lv_lload hx hb d_Z_replay_43 (lv_at hl 4 rfl) ?_
          refine lv_lconst (v := 0) hx hb d_Z_replay_45 rfl ?_
          refine W.lcmp hx hb d_Z_replay_46 ?_
          refine lv_if_eq (tgt := 59) hx hb d_Z_replay_47 (by decide) (fun hc3 => ?_) (fun hc3 => ?_)
          · skip
            obtain rfl : u9 = 0 := (wz_cmp_eq (b := 0) hu63 (by decide)).mp hc3
            refine lv_iconst (v := nI 0) hx hb d_Z_replay_59 (by decide) ?_
            exact wz_zret hx hb hr hlocks hK hP hD hS d_Z_replay_60 (by first | exact Or.inl rfl | exact Or.inr rfl) ⟨rfl, Or.inr ⟨r9, hr9, rfl, Or.inr ⟨rfl, fun q => zrep_0 _ _ (heq.mp q)⟩⟩⟩
          · skip
            have hu0 : u9 ≠ 0 := fun q => hc3 ((wz_cmp_eq (b := 0) hu63 (by decide)).mpr q)
            obtain ⟨f8, rfl⟩ : ∃ f8, f9 = f8 + 1 := ⟨f9 - 1, by
              cases f9 with
              | zero => have : u9 < 1 := hu; omega
              | succ f8 => omega⟩
            refine lv_aload_n hx hb d_Z_replay_50 rfl (lv_at hl 1 rfl) ?_
            refine lv_iload hx hb d_Z_replay_51 (lv_at hl 0 rfl) ?_
            have hQ := wz_split (n := 3) (gc := [zo_W q az (nI 0) n k kn bk sz fd ln fm fw]) (gr := [zt_W q az to fo, zs_W q az sb gb]) [0] [1, 2] rfl (by decide) rfl rfl hP hD
            refine wz_calli (va_runV (As := [.int (nI (u9 % 8))]) (rest := []) ⟨hx, hb, hml, hown, hts⟩ (c_Z_isMove l D q az (nI 0) n k kn bk sz fd ln fm fw (nI (u9 % 8)) hk _) (cwV 1 hts (wz_goodV kw_539 kw_541 kw_18 kw_37 kw_542) rfl rfl rfl (by decide +kernel) ⟨Nat.le_of_ble_eq_true rfl, Nat.le_of_ble_eq_true rfl⟩) (wz_preV (gi := 0) (k := 0) hN hK hQ wz_L_ok rfl rfl rfl) rfl rfl hl.1 rfl (lv_room (Nat.le_of_ble_eq_true rfl)) d_Z_replay_53 ⟨Nat.le_of_ble_eq_true rfl, Nat.le_of_ble_eq_true rfl⟩) hQ hS hA (fun v_53 gx H locs hp0 hP hD hS => ?_)
            obtain ⟨rfl, hp0⟩ := hp0
            obtain ⟨hP, hD⟩ := wz_ord (n := 3) (gs' := [zo_W q az (nI 0) n k kn bk sz fd ln fm fw, zt_W q az to fo, zs_W q az sb gb]) [0, 1, 2] rfl (by decide) rfl hP hD
            refine lv_if_ne (tgt := 61) hx hb d_Z_replay_56 (by decide) (fun hc4 => ?_) (fun hc4 => ?_)
            · skip
              have hmk : u9 % 8 < k := by
                obtain ⟨j, hj, e0⟩ := wz_bit_1 hp0 hc4
                rw [(nI_eq (by omega) (by omega)).mp e0]; exact hj
              have hE := heq.trans (zrep_on h7 hmk)
              refine lv_aload_n hx hb d_Z_replay_61 rfl (lv_at hl 1 rfl) ?_
              refine lv_iload_n hx hb d_Z_replay_62 rfl (lv_at hl 3 rfl) ?_
              refine lv_iload hx hb d_Z_replay_63 (lv_at hl 0 rfl) ?_
              refine lv_iconst (v := nI 0) hx hb d_Z_replay_65 (by decide) ?_
              have hQ := wz_split (n := 3) (gc := [zo_W q az (nI 0) n k kn bk sz fd ln fm fw, zt_W q az to fo]) (gr := [zs_W q az sb gb]) [0, 1] [2] rfl (by decide) rfl rfl hP hD
              refine wz_calli (va_runV (As := [.int (nI c9), .int (nI (u9 % 8)), .int (nI 0)]) (rest := []) ⟨hx, hb, hml, hown, hts⟩ (c_Z_done0 l D q az (nI 0) n k kn bk sz fd ln fm fw to fo c9 (u9 % 8) (sg (u9 % 8)) (tu (u9 % 8)) hn (by omega) hc8 (hok _ hmk).2.2.2 (hok _ hmk).1 _) (cwV 3 hts (wz_goodV kw_595 kw_597 kw_27 kw_37 kw_598) rfl rfl rfl (by decide +kernel) ⟨Nat.le_of_ble_eq_true rfl, Nat.le_of_ble_eq_true rfl⟩) (wz_preV (gi := 0) (k := 0) hN hK hQ wz_L_ok rfl rfl rfl) rfl rfl hl.1 rfl (lv_room (Nat.le_of_ble_eq_true rfl)) d_Z_replay_66 ⟨Nat.le_of_ble_eq_true rfl, Nat.le_of_ble_eq_true rfl⟩) hQ hS hA (fun v_66 gx H locs hp hP hD hS => ?_)
              obtain ⟨rfl, rfl⟩ := hp
              obtain ⟨hP, hD⟩ := wz_ord (n := 3) (gs' := [zo_W q az (nI 0) n k kn bk sz fd ln fm fw, zt_W q az to fo, zs_W q az sb gb]) [0, 1, 2] rfl (by decide) rfl hP hD
              refine lv_istore_n (lv' := [(3, .int (nI (pz_act n (tu (u9 % 8)) c9))), (6, .int (nI (u9 % 8))), (0, .ref (az 0)), (1, .long (lN r9)), (4, .long (lN u9))]) hx hb d_Z_replay_69 rfl hl (by decide) rfl (fun ls hl => ?_)
              refine lv_lload hx hb d_Z_replay_70 (lv_at hl 4 rfl) ?_
              refine lv_ldc2 (v := (8)) hx hb hown (hts _ kw_623) d_Z_replay_72 ?_
              refine lv_ldiv hx hb d_Z_replay_75 (by decide) ?_
              refine wz_topl (y := lN (u9 / 8)) (show lN u9 / lN 8 = _ from pk_lDiv hu63 (by decide) (by decide)) ?_
              refine lv_lstore (lv' := [(4, .long (lN (u9 / 8))), (3, .int (nI (pz_act n (tu (u9 % 8)) c9))), (6, .int (nI (u9 % 8))), (0, .ref (az 0)), (1, .long (lN r9))]) hx hb d_Z_replay_76 hl (by decide) rfl (fun ls hl => ?_)
              refine lv_goto (tgt := 21) hx hb d_Z_replay_78 (by decide) ?_
              exact ih (f8) (u9 / 8) (pz_act n (tu (u9 % 8)) c9) (by omega) (by omega) (by rw [Nat.pow_succ] at hu; omega) (pz_act_lt hc8) hE _ _ _ hP hD hS (lv_sub hl [3, 4, 1, 0] rfl)
            · skip
              refine lv_iconst (v := nI 0) hx hb d_Z_replay_59 (by decide) ?_
              exact wz_zret hx hb hr hlocks hK hP hD hS d_Z_replay_60 (by first | exact Or.inl rfl | exact Or.inr rfl) ⟨rfl, Or.inr ⟨r9, hr9, rfl, Or.inr ⟨rfl, fun q => zrep_no h7 (fun q2 => wz_bit_0 hp0 hc4 ⟨_, q2, rfl⟩) (heq.mp q)⟩⟩⟩
    exact loop 22 21 r9 sa (by omega) (by omega) (by omega) hsa.1 Iff.rfl _ _ _ hP hD hS (lv_sub hl [2, 3, 1, 0] rfl)
  · skip
    refine lv_iconst (v := nI 0) hx hb d_Z_replay_11 (by decide) ?_
    exact wz_zret hx hb hr hlocks hK hP hD hS d_Z_replay_12 (by first | exact Or.inl rfl | exact Or.inr rfl) ⟨rfl, Or.inl ⟨by
      have h1 : ¬ (0 : Int32) ≤ lg_cmp x 0 := hc
      rw [wz_cmp_ge0] at h1
      exact Decidable.not_not.mp h1, rfl⟩⟩
