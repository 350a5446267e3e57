-- ===== MotionLab$Ieee.rise(J)I
abbrev y_I_rise_J : MethodName := ⟨"MotionLab$Ieee", "rise", "(J)I"⟩
abbrev b_I_rise_J : ByteArray := prog_2_method_32_code
theorem d_I_rise_J_0 : decode b_I_rise_J 0 = .ok (.lload_n 0, 1) := by decide +kernel
theorem d_I_rise_J_1 : decode b_I_rise_J 1 = .ok (.invokestatic 45, 3) := by decide +kernel
theorem d_I_rise_J_4 : decode b_I_rise_J 4 = .ok (.invokestatic 126, 3) := by decide +kernel
theorem d_I_rise_J_7 : decode b_I_rise_J 7 = .ok (.bipush 11, 2) := by decide +kernel
theorem d_I_rise_J_9 : decode b_I_rise_J 9 = .ok (.isub, 1) := by decide +kernel
theorem d_I_rise_J_10 : decode b_I_rise_J 10 = .ok (.ireturn, 1) := by decide +kernel
def f_I_rise_J (x0 : Int64) : Int32 :=
  (f_jL_numberOfLeadingZeros_J (f_I_significand_J x0)) - (11 : Int32)
set_option maxHeartbeats 4000000 in
set_option maxRecDepth 100000 in
theorem c_I_rise_J (l : Launch) (h : Heap) (x0 : Int64) : Met l y_I_rise_J (gw y_I_rise_J b_I_rise_J 2 (some .int)) { frames := 2, cells := 0, slots := 0, locals := 43 } (pu_Pc [.long x0] h) (pu_Mi (f_I_rise_J x0) h) 0 0 (fun _ => False) := by
  refine Met.ofW (cc := b_I_rise_J) (maxL := 2) (ret := (some .int)) (by decide) rfl ?_
  intro p e s m args below meth c s₁ B hml hv
  obtain ⟨rfl, hh⟩ := hv
  subst hh
  have hx := B.exec
  have hb := B.bytes
  have hr := B.returns
  have hts := atoms_spec (ws := (gw y_I_rise_J b_I_rise_J 2 (some .int))) B.pre
  have hown : s.vm.findClass "MotionLab$Ieee" = some m.cls := findClass_of_methodNamed B.named
  have hlocks := B.notSynchronized
  have C0 : pu_C p s m _ meth c b_I_rise_J 2 "MotionLab$Ieee" (some .int) (gw y_I_rise_J b_I_rise_J 2 (some .int)) := ⟨hx, hb, hml, hown, hts, hr, hlocks⟩
  have hl := lv_entry ([.long x0]) (n := 2) (Nat.le_of_ble_eq_true rfl)
  rw [lg_entry_eq]
  generalize (lg_sl ([.long x0]) ++ List.replicate (2 - (lg_sl ([.long x0])).length) Slot.unset).toArray = ls at hl ⊢
  have hl : lv_has ls 2 [(0, .long x0)] := hl
  refine lv_lload_n hx hb d_I_rise_J_0 rfl (lv_at hl 0 rfl) ?_
  refine pu_l (As := [.long x0]) (rest := []) ⟨hx, hb, hml, hown, hts⟩ (c_I_significand_J l _ x0) pu_pre (gw_call (k := 1) hts tw_100 tw_101 tw_5 tw_102 (by decide +kernel) rfl rfl ⟨Nat.le_of_ble_eq_true rfl, Nat.le_of_ble_eq_true rfl⟩) rfl hl.1 rfl (Nat.le_of_ble_eq_true rfl) ⟨Nat.zero_le _, Nat.zero_le _⟩ d_I_rise_J_1 ?_
  refine pu_i (As := [.long (f_I_significand_J x0)]) (rest := []) ⟨hx, hb, hml, hown, hts⟩ (c_jL_numberOfLeadingZeros_J l _ (f_I_significand_J x0)) pu_pre (gw_call (k := 1) hts tw_108 tw_109 tw_7 tw_110 (by decide +kernel) rfl rfl ⟨Nat.le_of_ble_eq_true rfl, Nat.le_of_ble_eq_true rfl⟩) rfl hl.1 rfl (Nat.le_of_ble_eq_true rfl) ⟨Nat.zero_le _, Nat.zero_le _⟩ d_I_rise_J_4 ?_
  refine lv_bipush (v := (11 : Int32)) hx hb d_I_rise_J_7 (by decide) ?_
  refine lv_isub hx hb d_I_rise_J_9 ?_
  exact pu_iret hx hb hr hlocks d_I_rise_J_10 (by exact Eq.symm rfl)
-- ===== MotionLab$Ieee.highProduct(JJ)J
abbrev y_I_highProduct_JJ : MethodName := ⟨"MotionLab$Ieee", "highProduct", "(JJ)J"⟩
abbrev b_I_highProduct_JJ : ByteArray := prog_2_method_17_code
theorem d_I_highProduct_JJ_0 : decode b_I_highProduct_JJ 0 = .ok (.lload_n 0, 1) := by decide +kernel
theorem d_I_highProduct_JJ_1 : decode b_I_highProduct_JJ 1 = .ok (.bipush 27, 2) := by decide +kernel
theorem d_I_highProduct_JJ_3 : decode b_I_highProduct_JJ 3 = .ok (.lushr, 1) := by decide +kernel
theorem d_I_highProduct_JJ_4 : decode b_I_highProduct_JJ 4 = .ok (.lstore 4, 2) := by decide +kernel
theorem d_I_highProduct_JJ_6 : decode b_I_highProduct_JJ 6 = .ok (.lload_n 0, 1) := by decide +kernel
theorem d_I_highProduct_JJ_7 : decode b_I_highProduct_JJ 7 = .ok (.ldc2_w 71, 3) := by decide +kernel
theorem d_I_highProduct_JJ_10 : decode b_I_highProduct_JJ 10 = .ok (.land, 1) := by decide +kernel
theorem d_I_highProduct_JJ_11 : decode b_I_highProduct_JJ 11 = .ok (.lstore 6, 2) := by decide +kernel
theorem d_I_highProduct_JJ_13 : decode b_I_highProduct_JJ 13 = .ok (.lload_n 2, 1) := by decide +kernel
theorem d_I_highProduct_JJ_14 : decode b_I_highProduct_JJ 14 = .ok (.bipush 27, 2) := by decide +kernel
theorem d_I_highProduct_JJ_16 : decode b_I_highProduct_JJ 16 = .ok (.lushr, 1) := by decide +kernel
theorem d_I_highProduct_JJ_17 : decode b_I_highProduct_JJ 17 = .ok (.lstore 8, 2) := by decide +kernel
theorem d_I_highProduct_JJ_19 : decode b_I_highProduct_JJ 19 = .ok (.lload_n 2, 1) := by decide +kernel
theorem d_I_highProduct_JJ_20 : decode b_I_highProduct_JJ 20 = .ok (.ldc2_w 71, 3) := by decide +kernel
theorem d_I_highProduct_JJ_23 : decode b_I_highProduct_JJ 23 = .ok (.land, 1) := by decide +kernel
theorem d_I_highProduct_JJ_24 : decode b_I_highProduct_JJ 24 = .ok (.lstore 10, 2) := by decide +kernel
theorem d_I_highProduct_JJ_26 : decode b_I_highProduct_JJ 26 = .ok (.lload 6, 2) := by decide +kernel
theorem d_I_highProduct_JJ_28 : decode b_I_highProduct_JJ 28 = .ok (.lload 10, 2) := by decide +kernel
theorem d_I_highProduct_JJ_30 : decode b_I_highProduct_JJ 30 = .ok (.lmul, 1) := by decide +kernel
theorem d_I_highProduct_JJ_31 : decode b_I_highProduct_JJ 31 = .ok (.lstore 12, 2) := by decide +kernel
theorem d_I_highProduct_JJ_33 : decode b_I_highProduct_JJ 33 = .ok (.lload 4, 2) := by decide +kernel
theorem d_I_highProduct_JJ_35 : decode b_I_highProduct_JJ 35 = .ok (.lload 10, 2) := by decide +kernel
theorem d_I_highProduct_JJ_37 : decode b_I_highProduct_JJ 37 = .ok (.lmul, 1) := by decide +kernel
theorem d_I_highProduct_JJ_38 : decode b_I_highProduct_JJ 38 = .ok (.lload 6, 2) := by decide +kernel
theorem d_I_highProduct_JJ_40 : decode b_I_highProduct_JJ 40 = .ok (.lload 8, 2) := by decide +kernel
theorem d_I_highProduct_JJ_42 : decode b_I_highProduct_JJ 42 = .ok (.lmul, 1) := by decide +kernel
theorem d_I_highProduct_JJ_43 : decode b_I_highProduct_JJ 43 = .ok (.ladd, 1) := by decide +kernel
theorem d_I_highProduct_JJ_44 : decode b_I_highProduct_JJ 44 = .ok (.lload 12, 2) := by decide +kernel
theorem d_I_highProduct_JJ_46 : decode b_I_highProduct_JJ 46 = .ok (.bipush 27, 2) := by decide +kernel
theorem d_I_highProduct_JJ_48 : decode b_I_highProduct_JJ 48 = .ok (.lushr, 1) := by decide +kernel
theorem d_I_highProduct_JJ_49 : decode b_I_highProduct_JJ 49 = .ok (.ladd, 1) := by decide +kernel
theorem d_I_highProduct_JJ_50 : decode b_I_highProduct_JJ 50 = .ok (.lstore 14, 2) := by decide +kernel
theorem d_I_highProduct_JJ_52 : decode b_I_highProduct_JJ 52 = .ok (.lload 4, 2) := by decide +kernel
theorem d_I_highProduct_JJ_54 : decode b_I_highProduct_JJ 54 = .ok (.lload 8, 2) := by decide +kernel
theorem d_I_highProduct_JJ_56 : decode b_I_highProduct_JJ 56 = .ok (.lmul, 1) := by decide +kernel
theorem d_I_highProduct_JJ_57 : decode b_I_highProduct_JJ 57 = .ok (.bipush 10, 2) := by decide +kernel
theorem d_I_highProduct_JJ_59 : decode b_I_highProduct_JJ 59 = .ok (.lshl, 1) := by decide +kernel
theorem d_I_highProduct_JJ_60 : decode b_I_highProduct_JJ 60 = .ok (.lstore 16, 2) := by decide +kernel
theorem d_I_highProduct_JJ_62 : decode b_I_highProduct_JJ 62 = .ok (.lload 16, 2) := by decide +kernel
theorem d_I_highProduct_JJ_64 : decode b_I_highProduct_JJ 64 = .ok (.lload 14, 2) := by decide +kernel
theorem d_I_highProduct_JJ_66 : decode b_I_highProduct_JJ 66 = .ok (.bipush 17, 2) := by decide +kernel
theorem d_I_highProduct_JJ_68 : decode b_I_highProduct_JJ 68 = .ok (.lushr, 1) := by decide +kernel
theorem d_I_highProduct_JJ_69 : decode b_I_highProduct_JJ 69 = .ok (.ladd, 1) := by decide +kernel
theorem d_I_highProduct_JJ_70 : decode b_I_highProduct_JJ 70 = .ok (.lstore 18, 2) := by decide +kernel
theorem d_I_highProduct_JJ_72 : decode b_I_highProduct_JJ 72 = .ok (.lload 14, 2) := by decide +kernel
theorem d_I_highProduct_JJ_74 : decode b_I_highProduct_JJ 74 = .ok (.ldc2_w 73, 3) := by decide +kernel
theorem d_I_highProduct_JJ_77 : decode b_I_highProduct_JJ 77 = .ok (.land, 1) := by decide +kernel
theorem d_I_highProduct_JJ_78 : decode b_I_highProduct_JJ 78 = .ok (.lload 12, 2) := by decide +kernel
theorem d_I_highProduct_JJ_80 : decode b_I_highProduct_JJ 80 = .ok (.ldc2_w 71, 3) := by decide +kernel
theorem d_I_highProduct_JJ_83 : decode b_I_highProduct_JJ 83 = .ok (.land, 1) := by decide +kernel
theorem d_I_highProduct_JJ_84 : decode b_I_highProduct_JJ 84 = .ok (.lor, 1) := by decide +kernel
theorem d_I_highProduct_JJ_85 : decode b_I_highProduct_JJ 85 = .ok (.lstore 20, 2) := by decide +kernel
theorem d_I_highProduct_JJ_87 : decode b_I_highProduct_JJ 87 = .ok (.lload 20, 2) := by decide +kernel
theorem d_I_highProduct_JJ_89 : decode b_I_highProduct_JJ 89 = .ok (.lconst 0, 1) := by decide +kernel
theorem d_I_highProduct_JJ_90 : decode b_I_highProduct_JJ 90 = .ok (.lcmp, 1) := by decide +kernel
theorem d_I_highProduct_JJ_91 : decode b_I_highProduct_JJ 91 = .ok (.ifCond .ne 8, 3) := by decide +kernel
theorem d_I_highProduct_JJ_94 : decode b_I_highProduct_JJ 94 = .ok (.lload 18, 2) := by decide +kernel
theorem d_I_highProduct_JJ_96 : decode b_I_highProduct_JJ 96 = .ok (.goto 7, 3) := by decide +kernel
theorem d_I_highProduct_JJ_99 : decode b_I_highProduct_JJ 99 = .ok (.lload 18, 2) := by decide +kernel
theorem d_I_highProduct_JJ_101 : decode b_I_highProduct_JJ 101 = .ok (.lconst 1, 1) := by decide +kernel
theorem d_I_highProduct_JJ_102 : decode b_I_highProduct_JJ 102 = .ok (.lor, 1) := by decide +kernel
theorem d_I_highProduct_JJ_103 : decode b_I_highProduct_JJ 103 = .ok (.lreturn, 1) := by decide +kernel
def f_I_highProduct_JJ (x0 : Int64) (x2 : Int64) : Int64 :=
  let v1 : Int64 := j_ushr x0 (27 : Int32)
  let v2 : Int64 := x0 &&& (134217727 : Int64)
  let v3 : Int64 := j_ushr x2 (27 : Int32)
  let v4 : Int64 := x2 &&& (134217727 : Int64)
  let v5 : Int64 := v2 * v4
  let v6 : Int64 := ((v1 * v4) + (v2 * v3)) + (j_ushr v5 (27 : Int32))
  let v7 : Int64 := j_shl (v1 * v3) (10 : Int32)
  let v8 : Int64 := v7 + (j_ushr v6 (17 : Int32))
  let v9 : Int64 := (v6 &&& (131071 : Int64)) ||| (v5 &&& (134217727 : Int64))
  if (lg_cmp v9 (0 : Int64)) = 0 then
    v8
  else
    v8 ||| (1 : Int64)
set_option maxHeartbeats 4000000 in
set_option maxRecDepth 100000 in
theorem c_I_highProduct_JJ (l : Launch) (h : Heap) (x0 : Int64) (x2 : Int64) : Met l y_I_highProduct_JJ (gw y_I_highProduct_JJ b_I_highProduct_JJ 22 (some .long)) { frames := 0, cells := 0, slots := 0, locals := 0 } (pu_Pc [.long x0, .long x2] h) (pu_Ml (f_I_highProduct_JJ x0 x2) h) 0 0 (fun _ => False) := by
  refine Met.ofW (cc := b_I_highProduct_JJ) (maxL := 22) (ret := (some .long)) (by decide) rfl ?_
  intro p e s m args below meth c s₁ B hml hv
  obtain ⟨rfl, hh⟩ := hv
  subst hh
  have hx := B.exec
  have hb := B.bytes
  have hr := B.returns
  have hts := atoms_spec (ws := (gw y_I_highProduct_JJ b_I_highProduct_JJ 22 (some .long))) B.pre
  have hown : s.vm.findClass "MotionLab$Ieee" = some m.cls := findClass_of_methodNamed B.named
  have hlocks := B.notSynchronized
  have C0 : pu_C p s m _ meth c b_I_highProduct_JJ 22 "MotionLab$Ieee" (some .long) (gw y_I_highProduct_JJ b_I_highProduct_JJ 22 (some .long)) := ⟨hx, hb, hml, hown, hts, hr, hlocks⟩
  have hl := lv_entry ([.long x0, .long x2]) (n := 22) (Nat.le_of_ble_eq_true rfl)
  rw [lg_entry_eq]
  generalize (lg_sl ([.long x0, .long x2]) ++ List.replicate (22 - (lg_sl ([.long x0, .long x2])).length) Slot.unset).toArray = ls at hl ⊢
  have hl : lv_has ls 22 [(0, .long x0), (2, .long x2)] := hl
  refine lv_lload_n hx hb d_I_highProduct_JJ_0 rfl (lv_at hl 0 rfl) ?_
  refine lv_bipush (v := (27 : Int32)) hx hb d_I_highProduct_JJ_1 (by decide) ?_
  refine lv_lushr (v := j_ushr x0 (27 : Int32)) hx hb d_I_highProduct_JJ_3 rfl ?_
  refine lv_topl (fun v1 e1 => ?_)
  refine lv_lstore (lv' := [(4, .long v1), (0, .long x0), (2, .long x2)]) hx hb d_I_highProduct_JJ_4 hl (by decide) rfl (fun ls hl => ?_)
  refine lv_lload_n hx hb d_I_highProduct_JJ_6 rfl (lv_at hl 1 rfl) ?_
  refine lv_ldc2 (v := (134217727 : Int64)) hx hb hown (hts _ (gm tw_186)) d_I_highProduct_JJ_7 ?_
  refine lv_land hx hb d_I_highProduct_JJ_10 ?_
  refine lv_topl (fun v2 e2 => ?_)
  refine lv_lstore (lv' := [(6, .long v2), (4, .long v1), (0, .long x0), (2, .long x2)]) hx hb d_I_highProduct_JJ_11 hl (by decide) rfl (fun ls hl => ?_)
  refine lv_lload_n hx hb d_I_highProduct_JJ_13 rfl (lv_at hl 3 rfl) ?_
  refine lv_bipush (v := (27 : Int32)) hx hb d_I_highProduct_JJ_14 (by decide) ?_
  refine lv_lushr (v := j_ushr x2 (27 : Int32)) hx hb d_I_highProduct_JJ_16 rfl ?_
  refine lv_topl (fun v3 e3 => ?_)
  refine lv_lstore (lv' := [(8, .long v3), (6, .long v2), (4, .long v1), (0, .long x0), (2, .long x2)]) hx hb d_I_highProduct_JJ_17 hl (by decide) rfl (fun ls hl => ?_)
  refine lv_lload_n hx hb d_I_highProduct_JJ_19 rfl (lv_at hl 4 rfl) ?_
  refine lv_ldc2 (v := (134217727 : Int64)) hx hb hown (hts _ (gm tw_186)) d_I_highProduct_JJ_20 ?_
  refine lv_land hx hb d_I_highProduct_JJ_23 ?_
  refine lv_topl (fun v4 e4 => ?_)
  refine lv_lstore (lv' := [(10, .long v4), (8, .long v3), (6, .long v2), (4, .long v1), (0, .long x0), (2, .long x2)]) hx hb d_I_highProduct_JJ_24 hl (by decide) rfl (fun ls hl => ?_)
  refine lv_lload hx hb d_I_highProduct_JJ_26 (lv_at hl 2 rfl) ?_
  refine lv_lload hx hb d_I_highProduct_JJ_28 (lv_at hl 0 rfl) ?_
  refine lv_lmul hx hb d_I_highProduct_JJ_30 ?_
  refine lv_topl (fun v5 e5 => ?_)
  refine lv_lstore (lv' := [(12, .long v5), (10, .long v4), (8, .long v3), (6, .long v2), (4, .long v1), (0, .long x0), (2, .long x2)]) hx hb d_I_highProduct_JJ_31 hl (by decide) rfl (fun ls hl => ?_)
  refine lv_lload hx hb d_I_highProduct_JJ_33 (lv_at hl 4 rfl) ?_
  refine lv_lload hx hb d_I_highProduct_JJ_35 (lv_at hl 1 rfl) ?_
  refine lv_lmul hx hb d_I_highProduct_JJ_37 ?_
  refine lv_lload hx hb d_I_highProduct_JJ_38 (lv_at hl 3 rfl) ?_
  refine lv_lload hx hb d_I_highProduct_JJ_40 (lv_at hl 2 rfl) ?_
  refine lv_lmul hx hb d_I_highProduct_JJ_42 ?_
  refine lv_ladd hx hb d_I_highProduct_JJ_43 ?_
  refine lv_lload hx hb d_I_highProduct_JJ_44 (lv_at hl 0 rfl) ?_
  refine lv_bipush (v := (27 : Int32)) hx hb d_I_highProduct_JJ_46 (by decide) ?_
  refine lv_lushr (v := j_ushr v5 (27 : Int32)) hx hb d_I_highProduct_JJ_48 rfl ?_
  refine lv_ladd hx hb d_I_highProduct_JJ_49 ?_
  refine lv_topl (fun v6 e6 => ?_)
  refine lv_lstore (lv' := [(14, .long v6), (12, .long v5), (10, .long v4), (8, .long v3), (6, .long v2), (4, .long v1), (0, .long x0), (2, .long x2)]) hx hb d_I_highProduct_JJ_50 hl (by decide) rfl (fun ls hl => ?_)
  refine lv_lload hx hb d_I_highProduct_JJ_52 (lv_at hl 5 rfl) ?_
  refine lv_lload hx hb d_I_highProduct_JJ_54 (lv_at hl 3 rfl) ?_
  refine lv_lmul hx hb d_I_highProduct_JJ_56 ?_
  refine lv_bipush (v := (10 : Int32)) hx hb d_I_highProduct_JJ_57 (by decide) ?_
  refine lv_lshl (v := j_shl (v1 * v3) (10 : Int32)) hx hb d_I_highProduct_JJ_59 rfl ?_
  refine lv_topl (fun v7 e7 => ?_)
  refine lv_lstore (lv' := [(16, .long v7), (14, .long v6), (12, .long v5), (10, .long v4), (8, .long v3), (6, .long v2), (4, .long v1), (0, .long x0), (2, .long x2)]) hx hb d_I_highProduct_JJ_60 hl (by decide) rfl (fun ls hl => ?_)
  refine lv_lload hx hb d_I_highProduct_JJ_62 (lv_at hl 0 rfl) ?_
  refine lv_lload hx hb d_I_highProduct_JJ_64 (lv_at hl 1 rfl) ?_
  refine lv_bipush (v := (17 : Int32)) hx hb d_I_highProduct_JJ_66 (by decide) ?_
  refine lv_lushr (v := j_ushr v6 (17 : Int32)) hx hb d_I_highProduct_JJ_68 rfl ?_
  refine lv_ladd hx hb d_I_highProduct_JJ_69 ?_
  refine lv_topl (fun v8 e8 => ?_)
  refine lv_lstore (lv' := [(18, .long v8), (16, .long v7), (14, .long v6), (12, .long v5), (10, .long v4), (8, .long v3), (6, .long v2), (4, .long v1), (0, .long x0), (2, .long x2)]) hx hb d_I_highProduct_JJ_70 hl (by decide) rfl (fun ls hl => ?_)
  refine lv_lload hx hb d_I_highProduct_JJ_72 (lv_at hl 2 rfl) ?_
  refine lv_ldc2 (v := (131071 : Int64)) hx hb hown (hts _ (gm tw_187)) d_I_highProduct_JJ_74 ?_
  refine lv_land hx hb d_I_highProduct_JJ_77 ?_
  refine lv_lload hx hb d_I_highProduct_JJ_78 (lv_at hl 3 rfl) ?_
  refine lv_ldc2 (v := (134217727 : Int64)) hx hb hown (hts _ (gm tw_186)) d_I_highProduct_JJ_80 ?_
  refine lv_land hx hb d_I_highProduct_JJ_83 ?_
  refine lv_lor hx hb d_I_highProduct_JJ_84 ?_
  refine lv_topl (fun v9 e9 => ?_)
  refine lv_lstore (lv' := [(20, .long v9), (18, .long v8), (16, .long v7), (14, .long v6), (12, .long v5), (10, .long v4), (8, .long v3), (6, .long v2), (4, .long v1), (0, .long x0), (2, .long x2)]) hx hb d_I_highProduct_JJ_85 hl (by decide) rfl (fun ls hl => ?_)
  refine lv_lload hx hb d_I_highProduct_JJ_87 (lv_at hl 0 rfl) ?_
  refine lv_lconst (v := (0 : Int64)) hx hb d_I_highProduct_JJ_89 (by decide) ?_
  refine W.lcmp hx hb d_I_highProduct_JJ_90 ?_
  refine lv_if_ne (tgt := 99) hx hb d_I_highProduct_JJ_91 (by decide) (fun c10 => ?_) (fun c10 => ?_)
  · refine lv_lload hx hb d_I_highProduct_JJ_99 (lv_at hl 1 rfl) ?_
    refine lv_lconst (v := (1 : Int64)) hx hb d_I_highProduct_JJ_101 (by decide) ?_
    refine lv_lor hx hb d_I_highProduct_JJ_102 ?_
    exact pu_lret hx hb hr hlocks d_I_highProduct_JJ_103 (by have qe1 := e1.symm; have qe2 := e2.symm; have qe3 := e3.symm; have qe4 := e4.symm; have qe5 := e5.symm; have qe6 := e6.symm; have qe7 := e7.symm; have qe8 := e8.symm; have qe9 := e9.symm; subst qe1 qe2 qe3 qe4 qe5 qe6 qe7 qe8 qe9; exact Eq.symm (if_neg c10))
  · refine lv_lload hx hb d_I_highProduct_JJ_94 (lv_at hl 1 rfl) ?_
    refine lv_goto (tgt := 103) hx hb d_I_highProduct_JJ_96 (by decide) ?_
    exact pu_lret hx hb hr hlocks d_I_highProduct_JJ_103 (by have qe1 := e1.symm; have qe2 := e2.symm; have qe3 := e3.symm; have qe4 := e4.symm; have qe5 := e5.symm; have qe6 := e6.symm; have qe7 := e7.symm; have qe8 := e8.symm; have qe9 := e9.symm; subst qe1 qe2 qe3 qe4 qe5 qe6 qe7 qe8 qe9; exact Eq.symm (if_pos c10))
-- ===== MotionLab$Ieee.product(JJ)J
abbrev y_I_product_JJ : MethodName := ⟨"MotionLab$Ieee", "product", "(JJ)J"⟩
abbrev b_I_product_JJ : ByteArray := prog_2_method_16_code
theorem d_I_product_JJ_0 : decode b_I_product_JJ 0 = .ok (.lload_n 0, 1) := by decide +kernel
theorem d_I_product_JJ_1 : decode b_I_product_JJ 1 = .ok (.lload_n 2, 1) := by decide +kernel
theorem d_I_product_JJ_2 : decode b_I_product_JJ 2 = .ok (.lxor, 1) := by decide +kernel
theorem d_I_product_JJ_3 : decode b_I_product_JJ 3 = .ok (.ldc2_w 19, 3) := by decide +kernel
theorem d_I_product_JJ_6 : decode b_I_product_JJ 6 = .ok (.land, 1) := by decide +kernel
theorem d_I_product_JJ_7 : decode b_I_product_JJ 7 = .ok (.lstore 4, 2) := by decide +kernel
theorem d_I_product_JJ_9 : decode b_I_product_JJ 9 = .ok (.lload_n 0, 1) := by decide +kernel
theorem d_I_product_JJ_10 : decode b_I_product_JJ 10 = .ok (.invokestatic 35, 3) := by decide +kernel
theorem d_I_product_JJ_13 : decode b_I_product_JJ 13 = .ok (.ifCond .eq 10, 3) := by decide +kernel
theorem d_I_product_JJ_16 : decode b_I_product_JJ 16 = .ok (.lload_n 2, 1) := by decide +kernel
theorem d_I_product_JJ_17 : decode b_I_product_JJ 17 = .ok (.invokestatic 35, 3) := by decide +kernel
theorem d_I_product_JJ_20 : decode b_I_product_JJ 20 = .ok (.ifCond .ne 56, 3) := by decide +kernel
theorem d_I_product_JJ_23 : decode b_I_product_JJ 23 = .ok (.lload_n 0, 1) := by decide +kernel
theorem d_I_product_JJ_24 : decode b_I_product_JJ 24 = .ok (.invokestatic 13, 3) := by decide +kernel
theorem d_I_product_JJ_27 : decode b_I_product_JJ 27 = .ok (.ifCond .ne 24, 3) := by decide +kernel
theorem d_I_product_JJ_30 : decode b_I_product_JJ 30 = .ok (.lload_n 2, 1) := by decide +kernel
theorem d_I_product_JJ_31 : decode b_I_product_JJ 31 = .ok (.invokestatic 13, 3) := by decide +kernel
theorem d_I_product_JJ_34 : decode b_I_product_JJ 34 = .ok (.ifCond .ne 17, 3) := by decide +kernel
theorem d_I_product_JJ_37 : decode b_I_product_JJ 37 = .ok (.lload_n 0, 1) := by decide +kernel
theorem d_I_product_JJ_38 : decode b_I_product_JJ 38 = .ok (.invokestatic 62, 3) := by decide +kernel
theorem d_I_product_JJ_41 : decode b_I_product_JJ 41 = .ok (.ifCond .ne 10, 3) := by decide +kernel
theorem d_I_product_JJ_44 : decode b_I_product_JJ 44 = .ok (.lload_n 2, 1) := by decide +kernel
theorem d_I_product_JJ_45 : decode b_I_product_JJ 45 = .ok (.invokestatic 62, 3) := by decide +kernel
theorem d_I_product_JJ_48 : decode b_I_product_JJ 48 = .ok (.ifCond .eq 7, 3) := by decide +kernel
theorem d_I_product_JJ_51 : decode b_I_product_JJ 51 = .ok (.iconst 1, 1) := by decide +kernel
theorem d_I_product_JJ_52 : decode b_I_product_JJ 52 = .ok (.goto 4, 3) := by decide +kernel
theorem d_I_product_JJ_55 : decode b_I_product_JJ 55 = .ok (.iconst 0, 1) := by decide +kernel
theorem d_I_product_JJ_56 : decode b_I_product_JJ 56 = .ok (.istore 6, 2) := by decide +kernel
theorem d_I_product_JJ_58 : decode b_I_product_JJ 58 = .ok (.iload 6, 2) := by decide +kernel
theorem d_I_product_JJ_60 : decode b_I_product_JJ 60 = .ok (.ifCond .eq 9, 3) := by decide +kernel
theorem d_I_product_JJ_63 : decode b_I_product_JJ 63 = .ok (.ldc2_w 17, 3) := by decide +kernel
theorem d_I_product_JJ_66 : decode b_I_product_JJ 66 = .ok (.goto 9, 3) := by decide +kernel
theorem d_I_product_JJ_69 : decode b_I_product_JJ 69 = .ok (.lload 4, 2) := by decide +kernel
theorem d_I_product_JJ_71 : decode b_I_product_JJ 71 = .ok (.ldc2_w 11, 3) := by decide +kernel
theorem d_I_product_JJ_74 : decode b_I_product_JJ 74 = .ok (.lor, 1) := by decide +kernel
theorem d_I_product_JJ_75 : decode b_I_product_JJ 75 = .ok (.lreturn, 1) := by decide +kernel
theorem d_I_product_JJ_76 : decode b_I_product_JJ 76 = .ok (.lload_n 0, 1) := by decide +kernel
theorem d_I_product_JJ_77 : decode b_I_product_JJ 77 = .ok (.invokestatic 65, 3) := by decide +kernel
theorem d_I_product_JJ_80 : decode b_I_product_JJ 80 = .ok (.istore 6, 2) := by decide +kernel
theorem d_I_product_JJ_82 : decode b_I_product_JJ 82 = .ok (.lload_n 2, 1) := by decide +kernel
theorem d_I_product_JJ_83 : decode b_I_product_JJ 83 = .ok (.invokestatic 65, 3) := by decide +kernel
theorem d_I_product_JJ_86 : decode b_I_product_JJ 86 = .ok (.istore 7, 2) := by decide +kernel
theorem d_I_product_JJ_88 : decode b_I_product_JJ 88 = .ok (.lload_n 0, 1) := by decide +kernel
theorem d_I_product_JJ_89 : decode b_I_product_JJ 89 = .ok (.invokestatic 41, 3) := by decide +kernel
theorem d_I_product_JJ_92 : decode b_I_product_JJ 92 = .ok (.iload 6, 2) := by decide +kernel
theorem d_I_product_JJ_94 : decode b_I_product_JJ 94 = .ok (.isub, 1) := by decide +kernel
theorem d_I_product_JJ_95 : decode b_I_product_JJ 95 = .ok (.lload_n 2, 1) := by decide +kernel
theorem d_I_product_JJ_96 : decode b_I_product_JJ 96 = .ok (.invokestatic 41, 3) := by decide +kernel
theorem d_I_product_JJ_99 : decode b_I_product_JJ 99 = .ok (.iadd, 1) := by decide +kernel
theorem d_I_product_JJ_100 : decode b_I_product_JJ 100 = .ok (.iload 7, 2) := by decide +kernel
theorem d_I_product_JJ_102 : decode b_I_product_JJ 102 = .ok (.isub, 1) := by decide +kernel
theorem d_I_product_JJ_103 : decode b_I_product_JJ 103 = .ok (.bipush 44, 2) := by decide +kernel
theorem d_I_product_JJ_105 : decode b_I_product_JJ 105 = .ok (.iadd, 1) := by decide +kernel
theorem d_I_product_JJ_106 : decode b_I_product_JJ 106 = .ok (.istore 8, 2) := by decide +kernel
theorem d_I_product_JJ_108 : decode b_I_product_JJ 108 = .ok (.lload 4, 2) := by decide +kernel
theorem d_I_product_JJ_110 : decode b_I_product_JJ 110 = .ok (.iload 8, 2) := by decide +kernel
theorem d_I_product_JJ_112 : decode b_I_product_JJ 112 = .ok (.lload_n 0, 1) := by decide +kernel
theorem d_I_product_JJ_113 : decode b_I_product_JJ 113 = .ok (.invokestatic 45, 3) := by decide +kernel
theorem d_I_product_JJ_116 : decode b_I_product_JJ 116 = .ok (.iload 6, 2) := by decide +kernel
theorem d_I_product_JJ_118 : decode b_I_product_JJ 118 = .ok (.lshl, 1) := by decide +kernel
theorem d_I_product_JJ_119 : decode b_I_product_JJ 119 = .ok (.lload_n 2, 1) := by decide +kernel
theorem d_I_product_JJ_120 : decode b_I_product_JJ 120 = .ok (.invokestatic 45, 3) := by decide +kernel
theorem d_I_product_JJ_123 : decode b_I_product_JJ 123 = .ok (.iload 7, 2) := by decide +kernel
theorem d_I_product_JJ_125 : decode b_I_product_JJ 125 = .ok (.lshl, 1) := by decide +kernel
theorem d_I_product_JJ_126 : decode b_I_product_JJ 126 = .ok (.invokestatic 68, 3) := by decide +kernel
theorem d_I_product_JJ_129 : decode b_I_product_JJ 129 = .ok (.invokestatic 52, 3) := by decide +kernel
theorem d_I_product_JJ_132 : decode b_I_product_JJ 132 = .ok (.lreturn, 1) := by decide +kernel
def f_I_product_JJ_56 (x4 : Int64) (s0 : Int32) : Int64 :=
  if s0 = 0 then
    x4 ||| (9218868437227405312 : Int64)
  else
    (9221120237041090560 : Int64)
set_option maxHeartbeats 4000000 in
set_option maxRecDepth 100000 in
theorem k_I_product_JJ_56 {p : Program} {l : Launch} {e : Env} {s : State} {m : MethodId} {args : Array Value} {below : List Frame} {meth : Method} {c : Code} (C0 : pu_C p s m args meth c b_I_product_JJ 9 "MotionLab$Ieee" (some .long) (gw y_I_product_JJ b_I_product_JJ 9 (some .long))) (x4 : Int64) (s0 : Int32) (ls : Array Slot) (hl : lv_has ls 9 [(4, .long x4)]) {w : Int64} (hw : w = f_I_product_JJ_56 x4 s0) : W p l e (headSpec (gw y_I_product_JJ b_I_product_JJ 9 (some .long)) ({ frames := 3, cells := 0, slots := 0, locals := 69 } : Room)).room s m args below meth c s.heap [] 0 0 (pu_Ql w below args s) (F0 m 56 ls [.int s0]) := by
  obtain ⟨hx, hb, hml, hown, hts, hr, hlocks⟩ := id C0
  refine lv_istore (lv' := [(6, .int s0), (4, .long x4)]) hx hb d_I_product_JJ_56 hl (by decide) rfl (fun ls hl => ?_)
  refine lv_iload hx hb d_I_product_JJ_58 (lv_at hl 0 rfl) ?_
  refine lv_if_eq (tgt := 69) hx hb d_I_product_JJ_60 (by decide) (fun c1 => ?_) (fun c1 => ?_)
  · refine lv_lload hx hb d_I_product_JJ_69 (lv_at hl 1 rfl) ?_
    refine lv_ldc2 (v := (9218868437227405312 : Int64)) hx hb hown (hts _ (gm tw_85)) d_I_product_JJ_71 ?_
    refine lv_lor hx hb d_I_product_JJ_74 ?_
    exact pu_lret hx hb hr hlocks d_I_product_JJ_75 (by exact Eq.symm (hw.trans (if_pos c1)))
  · refine lv_ldc2 (v := (9221120237041090560 : Int64)) hx hb hown (hts _ (gm tw_92)) d_I_product_JJ_63 ?_
    refine lv_goto (tgt := 75) hx hb d_I_product_JJ_66 (by decide) ?_
    exact pu_lret hx hb hr hlocks d_I_product_JJ_75 (by exact Eq.symm (hw.trans (if_neg c1)))
def f_I_product_JJ_51 (x4 : Int64) : Int64 :=
  f_I_product_JJ_56 x4 (1 : Int32)
set_option maxHeartbeats 4000000 in
set_option maxRecDepth 100000 in
theorem k_I_product_JJ_51 {p : Program} {l : Launch} {e : Env} {s : State} {m : MethodId} {args : Array Value} {below : List Frame} {meth : Method} {c : Code} (C0 : pu_C p s m args meth c b_I_product_JJ 9 "MotionLab$Ieee" (some .long) (gw y_I_product_JJ b_I_product_JJ 9 (some .long))) (x4 : Int64) (ls : Array Slot) (hl : lv_has ls 9 [(4, .long x4)]) {w : Int64} (hw : w = f_I_product_JJ_51 x4) : W p l e (headSpec (gw y_I_product_JJ b_I_product_JJ 9 (some .long)) ({ frames := 3, cells := 0, slots := 0, locals := 69 } : Room)).room s m args below meth c s.heap [] 0 0 (pu_Ql w below args s) (F0 m 51 ls []) := by
  obtain ⟨hx, hb, hml, hown, hts, hr, hlocks⟩ := id C0
  refine lv_iconst (v := 1) hx hb d_I_product_JJ_51 (by decide) ?_
  refine lv_goto (tgt := 56) hx hb d_I_product_JJ_52 (by decide) ?_
  exact k_I_product_JJ_56 C0 x4 (1 : Int32) ls (lv_sub hl [0] rfl) (by exact (hw.trans rfl))
def f_I_product_JJ_23 (x0 : Int64) (x2 : Int64) (x4 : Int64) : Int64 :=
  if (f_I_isNoNumber_J x0) = 0 then
    if (f_I_isNoNumber_J x2) = 0 then
      if (f_I_isZero_J x0) = 0 then
        if (f_I_isZero_J x2) = 0 then
          f_I_product_JJ_56 x4 (0 : Int32)
        else
          f_I_product_JJ_51 x4
      else
        f_I_product_JJ_51 x4
    else
      f_I_product_JJ_51 x4
  else
    f_I_product_JJ_51 x4
set_option maxHeartbeats 4000000 in
set_option maxRecDepth 100000 in
theorem k_I_product_JJ_23 {p : Program} {l : Launch} {e : Env} {s : State} {m : MethodId} {args : Array Value} {below : List Frame} {meth : Method} {c : Code} (C0 : pu_C p s m args meth c b_I_product_JJ 9 "MotionLab$Ieee" (some .long) (gw y_I_product_JJ b_I_product_JJ 9 (some .long))) (x0 : Int64) (x2 : Int64) (x4 : Int64) (ls : Array Slot) (hl : lv_has ls 9 [(0, .long x0), (2, .long x2), (4, .long x4)]) {w : Int64} (hw : w = f_I_product_JJ_23 x0 x2 x4) : W p l e (headSpec (gw y_I_product_JJ b_I_product_JJ 9 (some .long)) ({ frames := 3, cells := 0, slots := 0, locals := 69 } : Room)).room s m args below meth c s.heap [] 0 0 (pu_Ql w below args s) (F0 m 23 ls []) := by
  obtain ⟨hx, hb, hml, hown, hts, hr, hlocks⟩ := id C0
  refine lv_lload_n hx hb d_I_product_JJ_23 rfl (lv_at hl 0 rfl) ?_
  refine pu_i (As := [.long x0]) (rest := []) ⟨hx, hb, hml, hown, hts⟩ (c_I_isNoNumber_J l _ x0) pu_pre (gw_call (k := 1) hts tw_89 tw_90 tw_5 tw_91 (by decide +kernel) rfl rfl ⟨Nat.le_of_ble_eq_true rfl, Nat.le_of_ble_eq_true rfl⟩) rfl hl.1 rfl (Nat.le_of_ble_eq_true rfl) ⟨Nat.zero_le _, Nat.zero_le _⟩ d_I_product_JJ_24 ?_
  refine lv_if_ne (tgt := 51) hx hb d_I_product_JJ_27 (by decide) (fun c1 => ?_) (fun c1 => ?_)
  · exact k_I_product_JJ_51 C0 x4 ls (lv_sub hl [2] rfl) (by exact (hw.trans (if_neg c1)))
  · refine lv_lload_n hx hb d_I_product_JJ_30 rfl (lv_at hl 1 rfl) ?_
    refine pu_i (As := [.long x2]) (rest := []) ⟨hx, hb, hml, hown, hts⟩ (c_I_isNoNumber_J l _ x2) pu_pre (gw_call (k := 1) hts tw_89 tw_90 tw_5 tw_91 (by decide +kernel) rfl rfl ⟨Nat.le_of_ble_eq_true rfl, Nat.le_of_ble_eq_true rfl⟩) rfl hl.1 rfl (Nat.le_of_ble_eq_true rfl) ⟨Nat.zero_le _, Nat.zero_le _⟩ d_I_product_JJ_31 ?_
    refine lv_if_ne (tgt := 51) hx hb d_I_product_JJ_34 (by decide) (fun c2 => ?_) (fun c2 => ?_)
    · exact k_I_product_JJ_51 C0 x4 ls (lv_sub hl [2] rfl) (by exact (hw.trans (Eq.trans (if_pos c1) (if_neg c2))))
    · refine lv_lload_n hx hb d_I_product_JJ_37 rfl (lv_at hl 0 rfl) ?_
      refine pu_i (As := [.long x0]) (rest := []) ⟨hx, hb, hml, hown, hts⟩ (c_I_isZero_J l _ x0) pu_pre (gw_call (k := 1) hts tw_177 tw_178 tw_5 tw_179 (by decide +kernel) rfl rfl ⟨Nat.le_of_ble_eq_true rfl, Nat.le_of_ble_eq_true rfl⟩) rfl hl.1 rfl (Nat.le_of_ble_eq_true rfl) ⟨Nat.zero_le _, Nat.zero_le _⟩ d_I_product_JJ_38 ?_
      refine lv_if_ne (tgt := 51) hx hb d_I_product_JJ_41 (by decide) (fun c3 => ?_) (fun c3 => ?_)
      · exact k_I_product_JJ_51 C0 x4 ls (lv_sub hl [2] rfl) (by exact (hw.trans (Eq.trans (if_pos c1) (Eq.trans (if_pos c2) (if_neg c3)))))
      · refine lv_lload_n hx hb d_I_product_JJ_44 rfl (lv_at hl 1 rfl) ?_
        refine pu_i (As := [.long x2]) (rest := []) ⟨hx, hb, hml, hown, hts⟩ (c_I_isZero_J l _ x2) pu_pre (gw_call (k := 1) hts tw_177 tw_178 tw_5 tw_179 (by decide +kernel) rfl rfl ⟨Nat.le_of_ble_eq_true rfl, Nat.le_of_ble_eq_true rfl⟩) rfl hl.1 rfl (Nat.le_of_ble_eq_true rfl) ⟨Nat.zero_le _, Nat.zero_le _⟩ d_I_product_JJ_45 ?_
        refine lv_if_eq (tgt := 55) hx hb d_I_product_JJ_48 (by decide) (fun c4 => ?_) (fun c4 => ?_)
        · refine lv_iconst (v := 0) hx hb d_I_product_JJ_55 (by decide) ?_
          exact k_I_product_JJ_56 C0 x4 (0 : Int32) ls (lv_sub hl [2] rfl) (by exact (hw.trans (Eq.trans (if_pos c1) (Eq.trans (if_pos c2) (Eq.trans (if_pos c3) (if_pos c4))))))
        · exact k_I_product_JJ_51 C0 x4 ls (lv_sub hl [2] rfl) (by exact (hw.trans (Eq.trans (if_pos c1) (Eq.trans (if_pos c2) (Eq.trans (if_pos c3) (if_neg c4))))))
def f_I_product_JJ (x0 : Int64) (x2 : Int64) : Int64 :=
  let v1 : Int64 := (x0 ^^^ x2) &&& (-9223372036854775808 : Int64)
  if (f_I_isFinite_J x0) = 0 then
    f_I_product_JJ_23 x0 x2 v1
  else
    if (f_I_isFinite_J x2) = 0 then
      f_I_product_JJ_23 x0 x2 v1
    else
      let v4 : Int32 := f_I_rise_J x0
      let v5 : Int32 := f_I_rise_J x2
      let v6 : Int32 := ((((f_I_power_J x0) - v4) + (f_I_power_J x2)) - v5) + (44 : Int32)
      f_I_nearest_JIJ v1 v6 (f_I_highProduct_JJ (j_shl (f_I_significand_J x0) v4) (j_shl (f_I_significand_J x2) v5))
set_option maxHeartbeats 4000000 in
set_option maxRecDepth 100000 in
theorem c_I_product_JJ (l : Launch) (h : Heap) (x0 : Int64) (x2 : Int64) : Met l y_I_product_JJ (gw y_I_product_JJ b_I_product_JJ 9 (some .long)) { frames := 3, cells := 0, slots := 0, locals := 69 } (pu_Pc [.long x0, .long x2] h) (pu_Ml (f_I_product_JJ x0 x2) h) 0 0 (fun _ => False) := by
  refine Met.ofW (cc := b_I_product_JJ) (maxL := 9) (ret := (some .long)) (by decide) rfl ?_
  intro p e s m args below meth c s₁ B hml hv
  obtain ⟨rfl, hh⟩ := hv
  subst hh
  have hx := B.exec
  have hb := B.bytes
  have hr := B.returns
  have hts := atoms_spec (ws := (gw y_I_product_JJ b_I_product_JJ 9 (some .long))) B.pre
  have hown : s.vm.findClass "MotionLab$Ieee" = some m.cls := findClass_of_methodNamed B.named
  have hlocks := B.notSynchronized
  have C0 : pu_C p s m _ meth c b_I_product_JJ 9 "MotionLab$Ieee" (some .long) (gw y_I_product_JJ b_I_product_JJ 9 (some .long)) := ⟨hx, hb, hml, hown, hts, hr, hlocks⟩
  have hl := lv_entry ([.long x0, .long x2]) (n := 9) (Nat.le_of_ble_eq_true rfl)
  rw [lg_entry_eq]
  generalize (lg_sl ([.long x0, .long x2]) ++ List.replicate (9 - (lg_sl ([.long x0, .long x2])).length) Slot.unset).toArray = ls at hl ⊢
  have hl : lv_has ls 9 [(0, .long x0), (2, .long x2)] := hl
  refine lv_lload_n hx hb d_I_product_JJ_0 rfl (lv_at hl 0 rfl) ?_
  refine lv_lload_n hx hb d_I_product_JJ_1 rfl (lv_at hl 1 rfl) ?_
  refine lv_lxor hx hb d_I_product_JJ_2 ?_
  refine lv_ldc2 (v := (-9223372036854775808 : Int64)) hx hb hown (hts _ (gm tw_93)) d_I_product_JJ_3 ?_
  refine lv_land hx hb d_I_product_JJ_6 ?_
  refine lv_topl (fun v1 e1 => ?_)
  refine lv_lstore (lv' := [(4, .long v1), (0, .long x0), (2, .long x2)]) hx hb d_I_product_JJ_7 hl (by decide) rfl (fun ls hl => ?_)
  refine lv_lload_n hx hb d_I_product_JJ_9 rfl (lv_at hl 1 rfl) ?_
  refine pu_i (As := [.long x0]) (rest := []) ⟨hx, hb, hml, hown, hts⟩ (c_I_isFinite_J l _ x0) pu_pre (gw_call (k := 1) hts tw_81 tw_82 tw_5 tw_83 (by decide +kernel) rfl rfl ⟨Nat.le_of_ble_eq_true rfl, Nat.le_of_ble_eq_true rfl⟩) rfl hl.1 rfl (Nat.le_of_ble_eq_true rfl) ⟨Nat.zero_le _, Nat.zero_le _⟩ d_I_product_JJ_10 ?_
  refine lv_if_eq (tgt := 23) hx hb d_I_product_JJ_13 (by decide) (fun c2 => ?_) (fun c2 => ?_)
  · exact k_I_product_JJ_23 C0 x0 x2 v1 ls (lv_sub hl [1, 2, 0] rfl) (by have qe1 := e1.symm; subst qe1; exact (if_pos c2))
  · refine lv_lload_n hx hb d_I_product_JJ_16 rfl (lv_at hl 2 rfl) ?_
    refine pu_i (As := [.long x2]) (rest := []) ⟨hx, hb, hml, hown, hts⟩ (c_I_isFinite_J l _ x2) pu_pre (gw_call (k := 1) hts tw_81 tw_82 tw_5 tw_83 (by decide +kernel) rfl rfl ⟨Nat.le_of_ble_eq_true rfl, Nat.le_of_ble_eq_true rfl⟩) rfl hl.1 rfl (Nat.le_of_ble_eq_true rfl) ⟨Nat.zero_le _, Nat.zero_le _⟩ d_I_product_JJ_17 ?_
    refine lv_if_ne (tgt := 76) hx hb d_I_product_JJ_20 (by decide) (fun c3 => ?_) (fun c3 => ?_)
    · refine lv_lload_n hx hb d_I_product_JJ_76 rfl (lv_at hl 1 rfl) ?_
      refine pu_i (As := [.long x0]) (rest := []) ⟨hx, hb, hml, hown, hts⟩ (c_I_rise_J l _ x0) pu_pre (gw_call (k := 1) hts tw_180 tw_181 tw_5 tw_182 (by decide +kernel) rfl rfl ⟨Nat.le_of_ble_eq_true rfl, Nat.le_of_ble_eq_true rfl⟩) rfl hl.1 rfl (Nat.le_of_ble_eq_true rfl) ⟨Nat.zero_le _, Nat.zero_le _⟩ d_I_product_JJ_77 ?_
      refine lv_topi (fun v4 e4 => ?_)
      refine lv_istore (lv' := [(6, .int v4), (4, .long v1), (0, .long x0), (2, .long x2)]) hx hb d_I_product_JJ_80 hl (by decide) rfl (fun ls hl => ?_)
      refine lv_lload_n hx hb d_I_product_JJ_82 rfl (lv_at hl 3 rfl) ?_
      refine pu_i (As := [.long x2]) (rest := []) ⟨hx, hb, hml, hown, hts⟩ (c_I_rise_J l _ x2) pu_pre (gw_call (k := 1) hts tw_180 tw_181 tw_5 tw_182 (by decide +kernel) rfl rfl ⟨Nat.le_of_ble_eq_true rfl, Nat.le_of_ble_eq_true rfl⟩) rfl hl.1 rfl (Nat.le_of_ble_eq_true rfl) ⟨Nat.zero_le _, Nat.zero_le _⟩ d_I_product_JJ_83 ?_
      refine lv_topi (fun v5 e5 => ?_)
      refine lv_istore (lv' := [(7, .int v5), (6, .int v4), (4, .long v1), (0, .long x0), (2, .long x2)]) hx hb d_I_product_JJ_86 hl (by decide) rfl (fun ls hl => ?_)
      refine lv_lload_n hx hb d_I_product_JJ_88 rfl (lv_at hl 3 rfl) ?_
      refine pu_i (As := [.long x0]) (rest := []) ⟨hx, hb, hml, hown, hts⟩ (c_I_power_J l _ x0) pu_pre (gw_call (k := 1) hts tw_94 tw_95 tw_5 tw_96 (by decide +kernel) rfl rfl ⟨Nat.le_of_ble_eq_true rfl, Nat.le_of_ble_eq_true rfl⟩) rfl hl.1 rfl (Nat.le_of_ble_eq_true rfl) ⟨Nat.zero_le _, Nat.zero_le _⟩ d_I_product_JJ_89 ?_
      refine lv_iload hx hb d_I_product_JJ_92 (lv_at hl 1 rfl) ?_
      refine lv_isub hx hb d_I_product_JJ_94 ?_
      refine lv_lload_n hx hb d_I_product_JJ_95 rfl (lv_at hl 4 rfl) ?_
      refine pu_i (As := [.long x2]) (rest := [.int ((f_I_power_J x0) - v4)]) ⟨hx, hb, hml, hown, hts⟩ (c_I_power_J l _ x2) pu_pre (gw_call (k := 1) hts tw_94 tw_95 tw_5 tw_96 (by decide +kernel) rfl rfl ⟨Nat.le_of_ble_eq_true rfl, Nat.le_of_ble_eq_true rfl⟩) rfl hl.1 rfl (Nat.le_of_ble_eq_true rfl) ⟨Nat.zero_le _, Nat.zero_le _⟩ d_I_product_JJ_96 ?_
      refine lv_iadd hx hb d_I_product_JJ_99 ?_
      refine lv_iload hx hb d_I_product_JJ_100 (lv_at hl 0 rfl) ?_
      refine lv_isub hx hb d_I_product_JJ_102 ?_
      refine lv_bipush (v := (44 : Int32)) hx hb d_I_product_JJ_103 (by decide) ?_
      refine lv_iadd hx hb d_I_product_JJ_105 ?_
      refine lv_topi (fun v6 e6 => ?_)
      refine lv_istore (lv' := [(8, .int v6), (7, .int v5), (6, .int v4), (4, .long v1), (0, .long x0), (2, .long x2)]) hx hb d_I_product_JJ_106 hl (by decide) rfl (fun ls hl => ?_)
      refine lv_lload hx hb d_I_product_JJ_108 (lv_at hl 3 rfl) ?_
      refine lv_iload hx hb d_I_product_JJ_110 (lv_at hl 0 rfl) ?_
      refine lv_lload_n hx hb d_I_product_JJ_112 rfl (lv_at hl 4 rfl) ?_
      refine pu_l (As := [.long x0]) (rest := [.int v6, .long v1]) ⟨hx, hb, hml, hown, hts⟩ (c_I_significand_J l _ x0) pu_pre (gw_call (k := 1) hts tw_100 tw_101 tw_5 tw_102 (by decide +kernel) rfl rfl ⟨Nat.le_of_ble_eq_true rfl, Nat.le_of_ble_eq_true rfl⟩) rfl hl.1 rfl (Nat.le_of_ble_eq_true rfl) ⟨Nat.zero_le _, Nat.zero_le _⟩ d_I_product_JJ_113 ?_
      refine lv_iload hx hb d_I_product_JJ_116 (lv_at hl 2 rfl) ?_
      refine lv_lshl (v := j_shl (f_I_significand_J x0) v4) hx hb d_I_product_JJ_118 rfl ?_
      refine lv_lload_n hx hb d_I_product_JJ_119 rfl (lv_at hl 5 rfl) ?_
      refine pu_l (As := [.long x2]) (rest := [.long (j_shl (f_I_significand_J x0) v4), .int v6, .long v1]) ⟨hx, hb, hml, hown, hts⟩ (c_I_significand_J l _ x2) pu_pre (gw_call (k := 1) hts tw_100 tw_101 tw_5 tw_102 (by decide +kernel) rfl rfl ⟨Nat.le_of_ble_eq_true rfl, Nat.le_of_ble_eq_true rfl⟩) rfl hl.1 rfl (Nat.le_of_ble_eq_true rfl) ⟨Nat.zero_le _, Nat.zero_le _⟩ d_I_product_JJ_120 ?_
      refine lv_iload hx hb d_I_product_JJ_123 (lv_at hl 1 rfl) ?_
      refine lv_lshl (v := j_shl (f_I_significand_J x2) v5) hx hb d_I_product_JJ_125 rfl ?_
      refine pu_l (As := [.long (j_shl (f_I_significand_J x0) v4), .long (j_shl (f_I_significand_J x2) v5)]) (rest := [.int v6, .long v1]) ⟨hx, hb, hml, hown, hts⟩ (c_I_highProduct_JJ l _ (j_shl (f_I_significand_J x0) v4) (j_shl (f_I_significand_J x2) v5)) pu_pre (gw_call (k := 2) hts tw_183 tw_184 tw_5 tw_185 (by decide +kernel) rfl rfl ⟨Nat.le_of_ble_eq_true rfl, Nat.le_of_ble_eq_true rfl⟩) rfl hl.1 rfl (Nat.le_of_ble_eq_true rfl) ⟨Nat.zero_le _, Nat.zero_le _⟩ d_I_product_JJ_126 ?_
      refine pu_l (As := [.long v1, .int v6, .long (f_I_highProduct_JJ (j_shl (f_I_significand_J x0) v4) (j_shl (f_I_significand_J x2) v5))]) (rest := []) ⟨hx, hb, hml, hown, hts⟩ (c_I_nearest_JIJ l _ v1 v6 (f_I_highProduct_JJ (j_shl (f_I_significand_J x0) v4) (j_shl (f_I_significand_J x2) v5))) pu_pre (gw_call (k := 3) hts tw_115 tw_116 tw_5 tw_117 (by decide +kernel) rfl rfl ⟨Nat.le_of_ble_eq_true rfl, Nat.le_of_ble_eq_true rfl⟩) rfl hl.1 rfl (Nat.le_of_ble_eq_true rfl) ⟨Nat.zero_le _, Nat.zero_le _⟩ d_I_product_JJ_129 ?_
      exact pu_lret hx hb hr hlocks d_I_product_JJ_132 (by have qe1 := e1.symm; have qe4 := e4.symm; have qe5 := e5.symm; have qe6 := e6.symm; subst qe1 qe4 qe5 qe6; exact Eq.symm (Eq.trans (if_neg c2) (if_neg c3)))
    · exact k_I_product_JJ_23 C0 x0 x2 v1 ls (lv_sub hl [1, 2, 0] rfl) (by have qe1 := e1.symm; subst qe1; exact (Eq.trans (if_neg c2) (if_pos c3)))
-- ===== MotionLab$Ieee.isInfinite(J)Z
abbrev y_I_isInfinite_J : MethodName := ⟨"MotionLab$Ieee", "isInfinite", "(J)Z"⟩
abbrev b_I_isInfinite_J : ByteArray := prog_2_method_3_code
theorem d_I_isInfinite_J_0 : decode b_I_isInfinite_J 0 = .ok (.lload_n 0, 1) := by decide +kernel
theorem d_I_isInfinite_J_1 : decode b_I_isInfinite_J 1 = .ok (.ldc2_w 9, 3) := by decide +kernel
theorem d_I_isInfinite_J_4 : decode b_I_isInfinite_J 4 = .ok (.land, 1) := by decide +kernel
theorem d_I_isInfinite_J_5 : decode b_I_isInfinite_J 5 = .ok (.ldc2_w 11, 3) := by decide +kernel
theorem d_I_isInfinite_J_8 : decode b_I_isInfinite_J 8 = .ok (.lcmp, 1) := by decide +kernel
theorem d_I_isInfinite_J_9 : decode b_I_isInfinite_J 9 = .ok (.ifCond .ne 7, 3) := by decide +kernel
theorem d_I_isInfinite_J_12 : decode b_I_isInfinite_J 12 = .ok (.iconst 1, 1) := by decide +kernel
theorem d_I_isInfinite_J_13 : decode b_I_isInfinite_J 13 = .ok (.goto 4, 3) := by decide +kernel
theorem d_I_isInfinite_J_16 : decode b_I_isInfinite_J 16 = .ok (.iconst 0, 1) := by decide +kernel
theorem d_I_isInfinite_J_17 : decode b_I_isInfinite_J 17 = .ok (.ireturn, 1) := by decide +kernel
def f_I_isInfinite_J (x0 : Int64) : Int32 :=
  if (lg_cmp (x0 &&& (9223372036854775807 : Int64)) (9218868437227405312 : Int64)) = 0 then
    (1 : Int32)
  else
    (0 : Int32)
set_option maxHeartbeats 4000000 in
set_option maxRecDepth 100000 in
theorem c_I_isInfinite_J (l : Launch) (h : Heap) (x0 : Int64) : Met l y_I_isInfinite_J (gw y_I_isInfinite_J b_I_isInfinite_J 2 (some .boolean)) { frames := 0, cells := 0, slots := 0, locals := 0 } (pu_Pc [.long x0] h) (pu_Mi (f_I_isInfinite_J x0) h) 0 0 (fun _ => False) := by
  refine Met.ofW (cc := b_I_isInfinite_J) (maxL := 2) (ret := (some .boolean)) (by decide) rfl ?_
  intro p e s m args below meth c s₁ B hml hv
  obtain ⟨rfl, hh⟩ := hv
  subst hh
  have hx := B.exec
  have hb := B.bytes
  have hr := B.returns
  have hts := atoms_spec (ws := (gw y_I_isInfinite_J b_I_isInfinite_J 2 (some .boolean))) B.pre
  have hown : s.vm.findClass "MotionLab$Ieee" = some m.cls := findClass_of_methodNamed B.named
  have hlocks := B.notSynchronized
  have C0 : pu_C p s m _ meth c b_I_isInfinite_J 2 "MotionLab$Ieee" (some .boolean) (gw y_I_isInfinite_J b_I_isInfinite_J 2 (some .boolean)) := ⟨hx, hb, hml, hown, hts, hr, hlocks⟩
  have hl := lv_entry ([.long x0]) (n := 2) (Nat.le_of_ble_eq_true rfl)
  rw [lg_entry_eq]
  generalize (lg_sl ([.long x0]) ++ List.replicate (2 - (lg_sl ([.long x0])).length) Slot.unset).toArray = ls at hl ⊢
  have hl : lv_has ls 2 [(0, .long x0)] := hl
  refine lv_lload_n hx hb d_I_isInfinite_J_0 rfl (lv_at hl 0 rfl) ?_
  refine lv_ldc2 (v := (9223372036854775807 : Int64)) hx hb hown (hts _ (gm tw_84)) d_I_isInfinite_J_1 ?_
  refine lv_land hx hb d_I_isInfinite_J_4 ?_
  refine lv_ldc2 (v := (9218868437227405312 : Int64)) hx hb hown (hts _ (gm tw_85)) d_I_isInfinite_J_5 ?_
  refine W.lcmp hx hb d_I_isInfinite_J_8 ?_
  refine lv_if_ne (tgt := 16) hx hb d_I_isInfinite_J_9 (by decide) (fun c1 => ?_) (fun c1 => ?_)
  · refine lv_iconst (v := 0) hx hb d_I_isInfinite_J_16 (by decide) ?_
    exact pu_zret hx hb hr rfl hlocks d_I_isInfinite_J_17 (by exact Eq.symm (if_neg c1))
  · refine lv_iconst (v := 1) hx hb d_I_isInfinite_J_12 (by decide) ?_
    refine lv_goto (tgt := 17) hx hb d_I_isInfinite_J_13 (by decide) ?_
    exact pu_zret hx hb hr rfl hlocks d_I_isInfinite_J_17 (by exact Eq.symm (if_pos c1))
-- ===== MotionLab$Ieee.unendingSum(JJ)J
abbrev y_I_unendingSum_JJ : MethodName := ⟨"MotionLab$Ieee", "unendingSum", "(JJ)J"⟩
abbrev b_I_unendingSum_JJ : ByteArray := prog_2_method_13_code
theorem d_I_unendingSum_JJ_0 : decode b_I_unendingSum_JJ 0 = .ok (.lload_n 0, 1) := by decide +kernel
theorem d_I_unendingSum_JJ_1 : decode b_I_unendingSum_JJ 1 = .ok (.invokestatic 13, 3) := by decide +kernel
theorem d_I_unendingSum_JJ_4 : decode b_I_unendingSum_JJ 4 = .ok (.ifCond .ne 30, 3) := by decide +kernel
theorem d_I_unendingSum_JJ_7 : decode b_I_unendingSum_JJ 7 = .ok (.lload_n 2, 1) := by decide +kernel
theorem d_I_unendingSum_JJ_8 : decode b_I_unendingSum_JJ 8 = .ok (.invokestatic 13, 3) := by decide +kernel
theorem d_I_unendingSum_JJ_11 : decode b_I_unendingSum_JJ 11 = .ok (.ifCond .ne 23, 3) := by decide +kernel
theorem d_I_unendingSum_JJ_14 : decode b_I_unendingSum_JJ 14 = .ok (.lload_n 0, 1) := by decide +kernel
theorem d_I_unendingSum_JJ_15 : decode b_I_unendingSum_JJ 15 = .ok (.invokestatic 56, 3) := by decide +kernel
theorem d_I_unendingSum_JJ_18 : decode b_I_unendingSum_JJ 18 = .ok (.ifCond .eq 20, 3) := by decide +kernel
theorem d_I_unendingSum_JJ_21 : decode b_I_unendingSum_JJ 21 = .ok (.lload_n 2, 1) := by decide +kernel
theorem d_I_unendingSum_JJ_22 : decode b_I_unendingSum_JJ 22 = .ok (.invokestatic 56, 3) := by decide +kernel
theorem d_I_unendingSum_JJ_25 : decode b_I_unendingSum_JJ 25 = .ok (.ifCond .eq 13, 3) := by decide +kernel
theorem d_I_unendingSum_JJ_28 : decode b_I_unendingSum_JJ 28 = .ok (.lload_n 0, 1) := by decide +kernel
theorem d_I_unendingSum_JJ_29 : decode b_I_unendingSum_JJ 29 = .ok (.lload_n 2, 1) := by decide +kernel
theorem d_I_unendingSum_JJ_30 : decode b_I_unendingSum_JJ 30 = .ok (.lcmp, 1) := by decide +kernel
theorem d_I_unendingSum_JJ_31 : decode b_I_unendingSum_JJ 31 = .ok (.ifCond .eq 7, 3) := by decide +kernel
theorem d_I_unendingSum_JJ_34 : decode b_I_unendingSum_JJ 34 = .ok (.ldc2_w 17, 3) := by decide +kernel
theorem d_I_unendingSum_JJ_37 : decode b_I_unendingSum_JJ 37 = .ok (.lreturn, 1) := by decide +kernel
theorem d_I_unendingSum_JJ_38 : decode b_I_unendingSum_JJ 38 = .ok (.lload_n 0, 1) := by decide +kernel
theorem d_I_unendingSum_JJ_39 : decode b_I_unendingSum_JJ 39 = .ok (.invokestatic 56, 3) := by decide +kernel
theorem d_I_unendingSum_JJ_42 : decode b_I_unendingSum_JJ 42 = .ok (.ifCond .eq 7, 3) := by decide +kernel
theorem d_I_unendingSum_JJ_45 : decode b_I_unendingSum_JJ 45 = .ok (.lload_n 0, 1) := by decide +kernel
theorem d_I_unendingSum_JJ_46 : decode b_I_unendingSum_JJ 46 = .ok (.goto 4, 3) := by decide +kernel
theorem d_I_unendingSum_JJ_49 : decode b_I_unendingSum_JJ 49 = .ok (.lload_n 2, 1) := by decide +kernel
theorem d_I_unendingSum_JJ_50 : decode b_I_unendingSum_JJ 50 = .ok (.lreturn, 1) := by decide +kernel
def f_I_unendingSum_JJ (x0 : Int64) (x2 : Int64) : Int64 :=
  if (f_I_isNoNumber_J x0) = 0 then
    if (f_I_isNoNumber_J x2) = 0 then
      if (f_I_isInfinite_J x0) = 0 then
        if (f_I_isInfinite_J x0) = 0 then
          x2
        else
          x0
      else
        if (f_I_isInfinite_J x2) = 0 then
          if (f_I_isInfinite_J x0) = 0 then
            x2
          else
            x0
        else
          if (lg_cmp x0 x2) = 0 then
            if (f_I_isInfinite_J x0) = 0 then
              x2
            else
              x0
          else
            (9221120237041090560 : Int64)
    else
      (9221120237041090560 : Int64)
  else
    (9221120237041090560 : Int64)
set_option maxHeartbeats 4000000 in
set_option maxRecDepth 100000 in
theorem c_I_unendingSum_JJ (l : Launch) (h : Heap) (x0 : Int64) (x2 : Int64) : Met l y_I_unendingSum_JJ (gw y_I_unendingSum_JJ b_I_unendingSum_JJ 4 (some .long)) { frames := 1, cells := 0, slots := 0, locals := 21 } (pu_Pc [.long x0, .long x2] h) (pu_Ml (f_I_unendingSum_JJ x0 x2) h) 0 0 (fun _ => False) := by
  refine Met.ofW (cc := b_I_unendingSum_JJ) (maxL := 4) (ret := (some .long)) (by decide) rfl ?_
  intro p e s m args below meth c s₁ B hml hv
  obtain ⟨rfl, hh⟩ := hv
  subst hh
  have hx := B.exec
  have hb := B.bytes
  have hr := B.returns
  have hts := atoms_spec (ws := (gw y_I_unendingSum_JJ b_I_unendingSum_JJ 4 (some .long))) B.pre
  have hown : s.vm.findClass "MotionLab$Ieee" = some m.cls := findClass_of_methodNamed B.named
  have hlocks := B.notSynchronized
  have C0 : pu_C p s m _ meth c b_I_unendingSum_JJ 4 "MotionLab$Ieee" (some .long) (gw y_I_unendingSum_JJ b_I_unendingSum_JJ 4 (some .long)) := ⟨hx, hb, hml, hown, hts, hr, hlocks⟩
  have hl := lv_entry ([.long x0, .long x2]) (n := 4) (Nat.le_of_ble_eq_true rfl)
  rw [lg_entry_eq]
  generalize (lg_sl ([.long x0, .long x2]) ++ List.replicate (4 - (lg_sl ([.long x0, .long x2])).length) Slot.unset).toArray = ls at hl ⊢
  have hl : lv_has ls 4 [(0, .long x0), (2, .long x2)] := hl
  refine lv_lload_n hx hb d_I_unendingSum_JJ_0 rfl (lv_at hl 0 rfl) ?_
  refine pu_i (As := [.long x0]) (rest := []) ⟨hx, hb, hml, hown, hts⟩ (c_I_isNoNumber_J l _ x0) pu_pre (gw_call (k := 1) hts tw_89 tw_90 tw_5 tw_91 (by decide +kernel) rfl rfl ⟨Nat.le_of_ble_eq_true rfl, Nat.le_of_ble_eq_true rfl⟩) rfl hl.1 rfl (Nat.le_of_ble_eq_true rfl) ⟨Nat.zero_le _, Nat.zero_le _⟩ d_I_unendingSum_JJ_1 ?_
  refine lv_if_ne (tgt := 34) hx hb d_I_unendingSum_JJ_4 (by decide) (fun c1 => ?_) (fun c1 => ?_)
  · refine lv_ldc2 (v := (9221120237041090560 : Int64)) hx hb hown (hts _ (gm tw_92)) d_I_unendingSum_JJ_34 ?_
    exact pu_lret hx hb hr hlocks d_I_unendingSum_JJ_37 (by exact Eq.symm (if_neg c1))
  · refine lv_lload_n hx hb d_I_unendingSum_JJ_7 rfl (lv_at hl 1 rfl) ?_
    refine pu_i (As := [.long x2]) (rest := []) ⟨hx, hb, hml, hown, hts⟩ (c_I_isNoNumber_J l _ x2) pu_pre (gw_call (k := 1) hts tw_89 tw_90 tw_5 tw_91 (by decide +kernel) rfl rfl ⟨Nat.le_of_ble_eq_true rfl, Nat.le_of_ble_eq_true rfl⟩) rfl hl.1 rfl (Nat.le_of_ble_eq_true rfl) ⟨Nat.zero_le _, Nat.zero_le _⟩ d_I_unendingSum_JJ_8 ?_
    refine lv_if_ne (tgt := 34) hx hb d_I_unendingSum_JJ_11 (by decide) (fun c2 => ?_) (fun c2 => ?_)
    · refine lv_ldc2 (v := (9221120237041090560 : Int64)) hx hb hown (hts _ (gm tw_92)) d_I_unendingSum_JJ_34 ?_
      exact pu_lret hx hb hr hlocks d_I_unendingSum_JJ_37 (by exact Eq.symm (Eq.trans (if_pos c1) (if_neg c2)))
    · refine lv_lload_n hx hb d_I_unendingSum_JJ_14 rfl (lv_at hl 0 rfl) ?_
      refine pu_i (As := [.long x0]) (rest := []) ⟨hx, hb, hml, hown, hts⟩ (c_I_isInfinite_J l _ x0) pu_pre (gw_call (k := 1) hts tw_197 tw_198 tw_5 tw_199 (by decide +kernel) rfl rfl ⟨Nat.le_of_ble_eq_true rfl, Nat.le_of_ble_eq_true rfl⟩) rfl hl.1 rfl (Nat.le_of_ble_eq_true rfl) ⟨Nat.zero_le _, Nat.zero_le _⟩ d_I_unendingSum_JJ_15 ?_
      refine lv_if_eq (tgt := 38) hx hb d_I_unendingSum_JJ_18 (by decide) (fun c3 => ?_) (fun c3 => ?_)
      · refine lv_lload_n hx hb d_I_unendingSum_JJ_38 rfl (lv_at hl 0 rfl) ?_
        refine pu_i (As := [.long x0]) (rest := []) ⟨hx, hb, hml, hown, hts⟩ (c_I_isInfinite_J l _ x0) pu_pre (gw_call (k := 1) hts tw_197 tw_198 tw_5 tw_199 (by decide +kernel) rfl rfl ⟨Nat.le_of_ble_eq_true rfl, Nat.le_of_ble_eq_true rfl⟩) rfl hl.1 rfl (Nat.le_of_ble_eq_true rfl) ⟨Nat.zero_le _, Nat.zero_le _⟩ d_I_unendingSum_JJ_39 ?_
        refine lv_if_eq (tgt := 49) hx hb d_I_unendingSum_JJ_42 (by decide) (fun c4 => ?_) (fun c4 => ?_)
        · refine lv_lload_n hx hb d_I_unendingSum_JJ_49 rfl (lv_at hl 1 rfl) ?_
          exact pu_lret hx hb hr hlocks d_I_unendingSum_JJ_50 (by exact Eq.symm (Eq.trans (if_pos c1) (Eq.trans (if_pos c2) (Eq.trans (if_pos c3) (if_pos c4)))))
        · refine lv_lload_n hx hb d_I_unendingSum_JJ_45 rfl (lv_at hl 0 rfl) ?_
          refine lv_goto (tgt := 50) hx hb d_I_unendingSum_JJ_46 (by decide) ?_
          exact pu_lret hx hb hr hlocks d_I_unendingSum_JJ_50 (by exact Eq.symm (Eq.trans (if_pos c1) (Eq.trans (if_pos c2) (Eq.trans (if_pos c3) (if_neg c4)))))
      · refine lv_lload_n hx hb d_I_unendingSum_JJ_21 rfl (lv_at hl 1 rfl) ?_
        refine pu_i (As := [.long x2]) (rest := []) ⟨hx, hb, hml, hown, hts⟩ (c_I_isInfinite_J l _ x2) pu_pre (gw_call (k := 1) hts tw_197 tw_198 tw_5 tw_199 (by decide +kernel) rfl rfl ⟨Nat.le_of_ble_eq_true rfl, Nat.le_of_ble_eq_true rfl⟩) rfl hl.1 rfl (Nat.le_of_ble_eq_true rfl) ⟨Nat.zero_le _, Nat.zero_le _⟩ d_I_unendingSum_JJ_22 ?_
        refine lv_if_eq (tgt := 38) hx hb d_I_unendingSum_JJ_25 (by decide) (fun c5 => ?_) (fun c5 => ?_)
        · refine lv_lload_n hx hb d_I_unendingSum_JJ_38 rfl (lv_at hl 0 rfl) ?_
          refine pu_i (As := [.long x0]) (rest := []) ⟨hx, hb, hml, hown, hts⟩ (c_I_isInfinite_J l _ x0) pu_pre (gw_call (k := 1) hts tw_197 tw_198 tw_5 tw_199 (by decide +kernel) rfl rfl ⟨Nat.le_of_ble_eq_true rfl, Nat.le_of_ble_eq_true rfl⟩) rfl hl.1 rfl (Nat.le_of_ble_eq_true rfl) ⟨Nat.zero_le _, Nat.zero_le _⟩ d_I_unendingSum_JJ_39 ?_
          refine lv_if_eq (tgt := 49) hx hb d_I_unendingSum_JJ_42 (by decide) (fun c6 => ?_) (fun c6 => ?_)
          · refine lv_lload_n hx hb d_I_unendingSum_JJ_49 rfl (lv_at hl 1 rfl) ?_
            exact pu_lret hx hb hr hlocks d_I_unendingSum_JJ_50 (by exact Eq.symm (Eq.trans (if_pos c1) (Eq.trans (if_pos c2) (Eq.trans (if_neg c3) (Eq.trans (if_pos c5) (if_pos c6))))))
          · refine lv_lload_n hx hb d_I_unendingSum_JJ_45 rfl (lv_at hl 0 rfl) ?_
            refine lv_goto (tgt := 50) hx hb d_I_unendingSum_JJ_46 (by decide) ?_
            exact pu_lret hx hb hr hlocks d_I_unendingSum_JJ_50 (by exact Eq.symm (Eq.trans (if_pos c1) (Eq.trans (if_pos c2) (Eq.trans (if_neg c3) (Eq.trans (if_pos c5) (if_neg c6))))))
        · refine lv_lload_n hx hb d_I_unendingSum_JJ_28 rfl (lv_at hl 0 rfl) ?_
          refine lv_lload_n hx hb d_I_unendingSum_JJ_29 rfl (lv_at hl 1 rfl) ?_
          refine W.lcmp hx hb d_I_unendingSum_JJ_30 ?_
          refine lv_if_eq (tgt := 38) hx hb d_I_unendingSum_JJ_31 (by decide) (fun c7 => ?_) (fun c7 => ?_)
          · refine lv_lload_n hx hb d_I_unendingSum_JJ_38 rfl (lv_at hl 0 rfl) ?_
            refine pu_i (As := [.long x0]) (rest := []) ⟨hx, hb, hml, hown, hts⟩ (c_I_isInfinite_J l _ x0) pu_pre (gw_call (k := 1) hts tw_197 tw_198 tw_5 tw_199 (by decide +kernel) rfl rfl ⟨Nat.le_of_ble_eq_true rfl, Nat.le_of_ble_eq_true rfl⟩) rfl hl.1 rfl (Nat.le_of_ble_eq_true rfl) ⟨Nat.zero_le _, Nat.zero_le _⟩ d_I_unendingSum_JJ_39 ?_
            refine lv_if_eq (tgt := 49) hx hb d_I_unendingSum_JJ_42 (by decide) (fun c8 => ?_) (fun c8 => ?_)
            · refine lv_lload_n hx hb d_I_unendingSum_JJ_49 rfl (lv_at hl 1 rfl) ?_
              exact pu_lret hx hb hr hlocks d_I_unendingSum_JJ_50 (by exact Eq.symm (Eq.trans (if_pos c1) (Eq.trans (if_pos c2) (Eq.trans (if_neg c3) (Eq.trans (if_neg c5) (Eq.trans (if_pos c7) (if_pos c8)))))))
            · refine lv_lload_n hx hb d_I_unendingSum_JJ_45 rfl (lv_at hl 0 rfl) ?_
              refine lv_goto (tgt := 50) hx hb d_I_unendingSum_JJ_46 (by decide) ?_
              exact pu_lret hx hb hr hlocks d_I_unendingSum_JJ_50 (by exact Eq.symm (Eq.trans (if_pos c1) (Eq.trans (if_pos c2) (Eq.trans (if_neg c3) (Eq.trans (if_neg c5) (Eq.trans (if_pos c7) (if_neg c8)))))))
          · refine lv_ldc2 (v := (9221120237041090560 : Int64)) hx hb hown (hts _ (gm tw_92)) d_I_unendingSum_JJ_34 ?_
            exact pu_lret hx hb hr hlocks d_I_unendingSum_JJ_37 (by exact Eq.symm (Eq.trans (if_pos c1) (Eq.trans (if_pos c2) (Eq.trans (if_neg c3) (Eq.trans (if_neg c5) (if_neg c7))))))
-- ===== MotionLab$Ieee.lowered(JI)J
abbrev y_I_lowered_JI : MethodName := ⟨"MotionLab$Ieee", "lowered", "(JI)J"⟩
abbrev b_I_lowered_JI : ByteArray := prog_2_method_14_code
theorem d_I_lowered_JI_0 : decode b_I_lowered_JI 0 = .ok (.iload_n 2, 1) := by decide +kernel
theorem d_I_lowered_JI_1 : decode b_I_lowered_JI 1 = .ok (.bipush 62, 2) := by decide +kernel
theorem d_I_lowered_JI_3 : decode b_I_lowered_JI 3 = .ok (.if_icmp .le 5, 3) := by decide +kernel
theorem d_I_lowered_JI_6 : decode b_I_lowered_JI 6 = .ok (.lconst 0, 1) := by decide +kernel
theorem d_I_lowered_JI_7 : decode b_I_lowered_JI 7 = .ok (.lreturn, 1) := by decide +kernel
theorem d_I_lowered_JI_8 : decode b_I_lowered_JI 8 = .ok (.lload_n 0, 1) := by decide +kernel
theorem d_I_lowered_JI_9 : decode b_I_lowered_JI 9 = .ok (.lconst 1, 1) := by decide +kernel
theorem d_I_lowered_JI_10 : decode b_I_lowered_JI 10 = .ok (.iload_n 2, 1) := by decide +kernel
theorem d_I_lowered_JI_11 : decode b_I_lowered_JI 11 = .ok (.lshl, 1) := by decide +kernel
theorem d_I_lowered_JI_12 : decode b_I_lowered_JI 12 = .ok (.lconst 1, 1) := by decide +kernel
theorem d_I_lowered_JI_13 : decode b_I_lowered_JI 13 = .ok (.lsub, 1) := by decide +kernel
theorem d_I_lowered_JI_14 : decode b_I_lowered_JI 14 = .ok (.land, 1) := by decide +kernel
theorem d_I_lowered_JI_15 : decode b_I_lowered_JI 15 = .ok (.lstore_n 3, 1) := by decide +kernel
theorem d_I_lowered_JI_16 : decode b_I_lowered_JI 16 = .ok (.lload_n 3, 1) := by decide +kernel
theorem d_I_lowered_JI_17 : decode b_I_lowered_JI 17 = .ok (.lconst 0, 1) := by decide +kernel
theorem d_I_lowered_JI_18 : decode b_I_lowered_JI 18 = .ok (.lcmp, 1) := by decide +kernel
theorem d_I_lowered_JI_19 : decode b_I_lowered_JI 19 = .ok (.ifCond .ne 9, 3) := by decide +kernel
theorem d_I_lowered_JI_22 : decode b_I_lowered_JI 22 = .ok (.lload_n 0, 1) := by decide +kernel
theorem d_I_lowered_JI_23 : decode b_I_lowered_JI 23 = .ok (.iload_n 2, 1) := by decide +kernel
theorem d_I_lowered_JI_24 : decode b_I_lowered_JI 24 = .ok (.lushr, 1) := by decide +kernel
theorem d_I_lowered_JI_25 : decode b_I_lowered_JI 25 = .ok (.goto 8, 3) := by decide +kernel
theorem d_I_lowered_JI_28 : decode b_I_lowered_JI 28 = .ok (.lload_n 0, 1) := by decide +kernel
theorem d_I_lowered_JI_29 : decode b_I_lowered_JI 29 = .ok (.iload_n 2, 1) := by decide +kernel
theorem d_I_lowered_JI_30 : decode b_I_lowered_JI 30 = .ok (.lushr, 1) := by decide +kernel
theorem d_I_lowered_JI_31 : decode b_I_lowered_JI 31 = .ok (.lconst 1, 1) := by decide +kernel
theorem d_I_lowered_JI_32 : decode b_I_lowered_JI 32 = .ok (.lor, 1) := by decide +kernel
theorem d_I_lowered_JI_33 : decode b_I_lowered_JI 33 = .ok (.lreturn, 1) := by decide +kernel
def f_I_lowered_JI (x0 : Int64) (x2 : Int32) : Int64 :=
  if x2 ≤ (62 : Int32) then
    let v2 : Int64 := x0 &&& ((j_shl (1 : Int64) x2) - (1 : Int64))
    if (lg_cmp v2 (0 : Int64)) = 0 then
      j_ushr x0 x2
    else
      (j_ushr x0 x2) ||| (1 : Int64)
  else
    (0 : Int64)
set_option maxHeartbeats 4000000 in
set_option maxRecDepth 100000 in
theorem c_I_lowered_JI (l : Launch) (h : Heap) (x0 : Int64) (x2 : Int32) : Met l y_I_lowered_JI (gw y_I_lowered_JI b_I_lowered_JI 5 (some .long)) { frames := 0, cells := 0, slots := 0, locals := 0 } (pu_Pc [.long x0, .int x2] h) (pu_Ml (f_I_lowered_JI x0 x2) h) 0 0 (fun _ => False) := by
  refine Met.ofW (cc := b_I_lowered_JI) (maxL := 5) (ret := (some .long)) (by decide) rfl ?_
  intro p e s m args below meth c s₁ B hml hv
  obtain ⟨rfl, hh⟩ := hv
  subst hh
  have hx := B.exec
  have hb := B.bytes
  have hr := B.returns
  have hts := atoms_spec (ws := (gw y_I_lowered_JI b_I_lowered_JI 5 (some .long))) B.pre
  have hown : s.vm.findClass "MotionLab$Ieee" = some m.cls := findClass_of_methodNamed B.named
  have hlocks := B.notSynchronized
  have C0 : pu_C p s m _ meth c b_I_lowered_JI 5 "MotionLab$Ieee" (some .long) (gw y_I_lowered_JI b_I_lowered_JI 5 (some .long)) := ⟨hx, hb, hml, hown, hts, hr, hlocks⟩
  have hl := lv_entry ([.long x0, .int x2]) (n := 5) (Nat.le_of_ble_eq_true rfl)
  rw [lg_entry_eq]
  generalize (lg_sl ([.long x0, .int x2]) ++ List.replicate (5 - (lg_sl ([.long x0, .int x2])).length) Slot.unset).toArray = ls at hl ⊢
  have hl : lv_has ls 5 [(0, .long x0), (2, .int x2)] := hl
  refine lv_iload_n hx hb d_I_lowered_JI_0 rfl (lv_at hl 1 rfl) ?_
  refine lv_bipush (v := (62 : Int32)) hx hb d_I_lowered_JI_1 (by decide) ?_
  refine lv_icmp_le (tgt := 8) hx hb d_I_lowered_JI_3 (by decide) (fun c1 => ?_) (fun c1 => ?_)
  · refine lv_lload_n hx hb d_I_lowered_JI_8 rfl (lv_at hl 0 rfl) ?_
    refine lv_lconst (v := (1 : Int64)) hx hb d_I_lowered_JI_9 (by decide) ?_
    refine lv_iload_n hx hb d_I_lowered_JI_10 rfl (lv_at hl 1 rfl) ?_
    refine lv_lshl (v := j_shl (1 : Int64) x2) hx hb d_I_lowered_JI_11 rfl ?_
    refine lv_lconst (v := (1 : Int64)) hx hb d_I_lowered_JI_12 (by decide) ?_
    refine lv_lsub hx hb d_I_lowered_JI_13 ?_
    refine lv_land hx hb d_I_lowered_JI_14 ?_
    refine lv_topl (fun v2 e2 => ?_)
    refine lv_lstore_n (lv' := [(3, .long v2), (0, .long x0), (2, .int x2)]) hx hb d_I_lowered_JI_15 rfl hl (by decide) rfl (fun ls hl => ?_)
    refine lv_lload_n hx hb d_I_lowered_JI_16 rfl (lv_at hl 0 rfl) ?_
    refine lv_lconst (v := (0 : Int64)) hx hb d_I_lowered_JI_17 (by decide) ?_
    refine W.lcmp hx hb d_I_lowered_JI_18 ?_
    refine lv_if_ne (tgt := 28) hx hb d_I_lowered_JI_19 (by decide) (fun c3 => ?_) (fun c3 => ?_)
    · refine lv_lload_n hx hb d_I_lowered_JI_28 rfl (lv_at hl 1 rfl) ?_
      refine lv_iload_n hx hb d_I_lowered_JI_29 rfl (lv_at hl 2 rfl) ?_
      refine lv_lushr (v := j_ushr x0 x2) hx hb d_I_lowered_JI_30 rfl ?_
      refine lv_lconst (v := (1 : Int64)) hx hb d_I_lowered_JI_31 (by decide) ?_
      refine lv_lor hx hb d_I_lowered_JI_32 ?_
      exact pu_lret hx hb hr hlocks d_I_lowered_JI_33 (by have qe2 := e2.symm; subst qe2; exact Eq.symm (Eq.trans (if_pos c1) (if_neg c3)))
    · refine lv_lload_n hx hb d_I_lowered_JI_22 rfl (lv_at hl 1 rfl) ?_
      refine lv_iload_n hx hb d_I_lowered_JI_23 rfl (lv_at hl 2 rfl) ?_
      refine lv_lushr (v := j_ushr x0 x2) hx hb d_I_lowered_JI_24 rfl ?_
      refine lv_goto (tgt := 33) hx hb d_I_lowered_JI_25 (by decide) ?_
      exact pu_lret hx hb hr hlocks d_I_lowered_JI_33 (by have qe2 := e2.symm; subst qe2; exact Eq.symm (Eq.trans (if_pos c1) (if_pos c3)))
  · refine lv_lconst (v := (0 : Int64)) hx hb d_I_lowered_JI_6 (by decide) ?_
    exact pu_lret hx hb hr hlocks d_I_lowered_JI_7 (by exact Eq.symm (if_neg c1))
