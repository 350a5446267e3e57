-- ===== MotionLab$Ieee.sum(JJ)J
abbrev y_I_sum_JJ : MethodName := ⟨"MotionLab$Ieee", "sum", "(JJ)J"⟩
abbrev b_I_sum_JJ : ByteArray := prog_2_method_12_code
theorem d_I_sum_JJ_0 : decode b_I_sum_JJ 0 = .ok (.lload_n 0, 1) := by decide +kernel
theorem d_I_sum_JJ_1 : decode b_I_sum_JJ 1 = .ok (.invokestatic 35, 3) := by decide +kernel
theorem d_I_sum_JJ_4 : decode b_I_sum_JJ 4 = .ok (.ifCond .eq 10, 3) := by decide +kernel
theorem d_I_sum_JJ_7 : decode b_I_sum_JJ 7 = .ok (.lload_n 2, 1) := by decide +kernel
theorem d_I_sum_JJ_8 : decode b_I_sum_JJ 8 = .ok (.invokestatic 35, 3) := by decide +kernel
theorem d_I_sum_JJ_11 : decode b_I_sum_JJ 11 = .ok (.ifCond .ne 9, 3) := by decide +kernel
theorem d_I_sum_JJ_14 : decode b_I_sum_JJ 14 = .ok (.lload_n 0, 1) := by decide +kernel
theorem d_I_sum_JJ_15 : decode b_I_sum_JJ 15 = .ok (.lload_n 2, 1) := by decide +kernel
theorem d_I_sum_JJ_16 : decode b_I_sum_JJ 16 = .ok (.invokestatic 38, 3) := by decide +kernel
theorem d_I_sum_JJ_19 : decode b_I_sum_JJ 19 = .ok (.lreturn, 1) := by decide +kernel
theorem d_I_sum_JJ_20 : decode b_I_sum_JJ 20 = .ok (.lload_n 0, 1) := by decide +kernel
theorem d_I_sum_JJ_21 : decode b_I_sum_JJ 21 = .ok (.ldc2_w 9, 3) := by decide +kernel
theorem d_I_sum_JJ_24 : decode b_I_sum_JJ 24 = .ok (.land, 1) := by decide +kernel
theorem d_I_sum_JJ_25 : decode b_I_sum_JJ 25 = .ok (.lload_n 2, 1) := by decide +kernel
theorem d_I_sum_JJ_26 : decode b_I_sum_JJ 26 = .ok (.ldc2_w 9, 3) := by decide +kernel
theorem d_I_sum_JJ_29 : decode b_I_sum_JJ 29 = .ok (.land, 1) := by decide +kernel
theorem d_I_sum_JJ_30 : decode b_I_sum_JJ 30 = .ok (.lcmp, 1) := by decide +kernel
theorem d_I_sum_JJ_31 : decode b_I_sum_JJ 31 = .ok (.ifCond .ge 7, 3) := by decide +kernel
theorem d_I_sum_JJ_34 : decode b_I_sum_JJ 34 = .ok (.iconst 1, 1) := by decide +kernel
theorem d_I_sum_JJ_35 : decode b_I_sum_JJ 35 = .ok (.goto 4, 3) := by decide +kernel
theorem d_I_sum_JJ_38 : decode b_I_sum_JJ 38 = .ok (.iconst 0, 1) := by decide +kernel
theorem d_I_sum_JJ_39 : decode b_I_sum_JJ 39 = .ok (.istore 4, 2) := by decide +kernel
theorem d_I_sum_JJ_41 : decode b_I_sum_JJ 41 = .ok (.iload 4, 2) := by decide +kernel
theorem d_I_sum_JJ_43 : decode b_I_sum_JJ 43 = .ok (.ifCond .eq 7, 3) := by decide +kernel
theorem d_I_sum_JJ_46 : decode b_I_sum_JJ 46 = .ok (.lload_n 2, 1) := by decide +kernel
theorem d_I_sum_JJ_47 : decode b_I_sum_JJ 47 = .ok (.goto 4, 3) := by decide +kernel
theorem d_I_sum_JJ_50 : decode b_I_sum_JJ 50 = .ok (.lload_n 0, 1) := by decide +kernel
theorem d_I_sum_JJ_51 : decode b_I_sum_JJ 51 = .ok (.lstore 5, 2) := by decide +kernel
theorem d_I_sum_JJ_53 : decode b_I_sum_JJ 53 = .ok (.iload 4, 2) := by decide +kernel
theorem d_I_sum_JJ_55 : decode b_I_sum_JJ 55 = .ok (.ifCond .eq 7, 3) := by decide +kernel
theorem d_I_sum_JJ_58 : decode b_I_sum_JJ 58 = .ok (.lload_n 0, 1) := by decide +kernel
theorem d_I_sum_JJ_59 : decode b_I_sum_JJ 59 = .ok (.goto 4, 3) := by decide +kernel
theorem d_I_sum_JJ_62 : decode b_I_sum_JJ 62 = .ok (.lload_n 2, 1) := by decide +kernel
theorem d_I_sum_JJ_63 : decode b_I_sum_JJ 63 = .ok (.lstore 7, 2) := by decide +kernel
theorem d_I_sum_JJ_65 : decode b_I_sum_JJ 65 = .ok (.lload 5, 2) := by decide +kernel
theorem d_I_sum_JJ_67 : decode b_I_sum_JJ 67 = .ok (.invokestatic 41, 3) := by decide +kernel
theorem d_I_sum_JJ_70 : decode b_I_sum_JJ 70 = .ok (.istore 9, 2) := by decide +kernel
theorem d_I_sum_JJ_72 : decode b_I_sum_JJ 72 = .ok (.lload 5, 2) := by decide +kernel
theorem d_I_sum_JJ_74 : decode b_I_sum_JJ 74 = .ok (.invokestatic 45, 3) := by decide +kernel
theorem d_I_sum_JJ_77 : decode b_I_sum_JJ 77 = .ok (.bipush 9, 2) := by decide +kernel
theorem d_I_sum_JJ_79 : decode b_I_sum_JJ 79 = .ok (.lshl, 1) := by decide +kernel
theorem d_I_sum_JJ_80 : decode b_I_sum_JJ 80 = .ok (.lstore 10, 2) := by decide +kernel
theorem d_I_sum_JJ_82 : decode b_I_sum_JJ 82 = .ok (.lload 7, 2) := by decide +kernel
theorem d_I_sum_JJ_84 : decode b_I_sum_JJ 84 = .ok (.invokestatic 45, 3) := by decide +kernel
theorem d_I_sum_JJ_87 : decode b_I_sum_JJ 87 = .ok (.bipush 9, 2) := by decide +kernel
theorem d_I_sum_JJ_89 : decode b_I_sum_JJ 89 = .ok (.lshl, 1) := by decide +kernel
theorem d_I_sum_JJ_90 : decode b_I_sum_JJ 90 = .ok (.iload 9, 2) := by decide +kernel
theorem d_I_sum_JJ_92 : decode b_I_sum_JJ 92 = .ok (.lload 7, 2) := by decide +kernel
theorem d_I_sum_JJ_94 : decode b_I_sum_JJ 94 = .ok (.invokestatic 41, 3) := by decide +kernel
theorem d_I_sum_JJ_97 : decode b_I_sum_JJ 97 = .ok (.isub, 1) := by decide +kernel
theorem d_I_sum_JJ_98 : decode b_I_sum_JJ 98 = .ok (.invokestatic 48, 3) := by decide +kernel
theorem d_I_sum_JJ_101 : decode b_I_sum_JJ 101 = .ok (.lstore 12, 2) := by decide +kernel
theorem d_I_sum_JJ_103 : decode b_I_sum_JJ 103 = .ok (.lload_n 0, 1) := by decide +kernel
theorem d_I_sum_JJ_104 : decode b_I_sum_JJ 104 = .ok (.lload_n 2, 1) := by decide +kernel
theorem d_I_sum_JJ_105 : decode b_I_sum_JJ 105 = .ok (.lxor, 1) := by decide +kernel
theorem d_I_sum_JJ_106 : decode b_I_sum_JJ 106 = .ok (.lconst 0, 1) := by decide +kernel
theorem d_I_sum_JJ_107 : decode b_I_sum_JJ 107 = .ok (.lcmp, 1) := by decide +kernel
theorem d_I_sum_JJ_108 : decode b_I_sum_JJ 108 = .ok (.ifCond .ge 11, 3) := by decide +kernel
theorem d_I_sum_JJ_111 : decode b_I_sum_JJ 111 = .ok (.lload 10, 2) := by decide +kernel
theorem d_I_sum_JJ_113 : decode b_I_sum_JJ 113 = .ok (.lload 12, 2) := by decide +kernel
theorem d_I_sum_JJ_115 : decode b_I_sum_JJ 115 = .ok (.lsub, 1) := by decide +kernel
theorem d_I_sum_JJ_116 : decode b_I_sum_JJ 116 = .ok (.goto 8, 3) := by decide +kernel
theorem d_I_sum_JJ_119 : decode b_I_sum_JJ 119 = .ok (.lload 10, 2) := by decide +kernel
theorem d_I_sum_JJ_121 : decode b_I_sum_JJ 121 = .ok (.lload 12, 2) := by decide +kernel
theorem d_I_sum_JJ_123 : decode b_I_sum_JJ 123 = .ok (.ladd, 1) := by decide +kernel
theorem d_I_sum_JJ_124 : decode b_I_sum_JJ 124 = .ok (.lstore 14, 2) := by decide +kernel
theorem d_I_sum_JJ_126 : decode b_I_sum_JJ 126 = .ok (.lload 14, 2) := by decide +kernel
theorem d_I_sum_JJ_128 : decode b_I_sum_JJ 128 = .ok (.lconst 0, 1) := by decide +kernel
theorem d_I_sum_JJ_129 : decode b_I_sum_JJ 129 = .ok (.lcmp, 1) := by decide +kernel
theorem d_I_sum_JJ_130 : decode b_I_sum_JJ 130 = .ok (.ifCond .ne 11, 3) := by decide +kernel
theorem d_I_sum_JJ_133 : decode b_I_sum_JJ 133 = .ok (.lload_n 0, 1) := by decide +kernel
theorem d_I_sum_JJ_134 : decode b_I_sum_JJ 134 = .ok (.lload_n 2, 1) := by decide +kernel
theorem d_I_sum_JJ_135 : decode b_I_sum_JJ 135 = .ok (.land, 1) := by decide +kernel
theorem d_I_sum_JJ_136 : decode b_I_sum_JJ 136 = .ok (.ldc2_w 19, 3) := by decide +kernel
theorem d_I_sum_JJ_139 : decode b_I_sum_JJ 139 = .ok (.land, 1) := by decide +kernel
theorem d_I_sum_JJ_140 : decode b_I_sum_JJ 140 = .ok (.lreturn, 1) := by decide +kernel
theorem d_I_sum_JJ_141 : decode b_I_sum_JJ 141 = .ok (.lload 5, 2) := by decide +kernel
theorem d_I_sum_JJ_143 : decode b_I_sum_JJ 143 = .ok (.ldc2_w 19, 3) := by decide +kernel
theorem d_I_sum_JJ_146 : decode b_I_sum_JJ 146 = .ok (.land, 1) := by decide +kernel
theorem d_I_sum_JJ_147 : decode b_I_sum_JJ 147 = .ok (.iload 9, 2) := by decide +kernel
theorem d_I_sum_JJ_149 : decode b_I_sum_JJ 149 = .ok (.bipush 9, 2) := by decide +kernel
theorem d_I_sum_JJ_151 : decode b_I_sum_JJ 151 = .ok (.isub, 1) := by decide +kernel
theorem d_I_sum_JJ_152 : decode b_I_sum_JJ 152 = .ok (.lload 14, 2) := by decide +kernel
theorem d_I_sum_JJ_154 : decode b_I_sum_JJ 154 = .ok (.invokestatic 52, 3) := by decide +kernel
theorem d_I_sum_JJ_157 : decode b_I_sum_JJ 157 = .ok (.lreturn, 1) := by decide +kernel
def f_I_sum_JJ_124 (x0 : Int64) (x2 : Int64) (x5 : Int64) (x9 : Int32) (s0 : Int64) : Int64 :=
  if (lg_cmp s0 (0 : Int64)) = 0 then
    (x0 &&& x2) &&& (-9223372036854775808 : Int64)
  else
    f_I_nearest_JIJ (x5 &&& (-9223372036854775808 : Int64)) (x9 - (9 : Int32)) s0
set_option maxHeartbeats 4000000 in
set_option maxRecDepth 100000 in
theorem k_I_sum_JJ_124 {p : Program} {l : Launch} {e : Env} {s : State} {m : MethodId} {args : Array Value} {below : List Frame} {meth : Method} {c : Code} (C0 : pu_C p s m args meth c b_I_sum_JJ 16 "MotionLab$Ieee" (some .long) (gw y_I_sum_JJ b_I_sum_JJ 16 (some .long))) (x0 : Int64) (x2 : Int64) (x5 : Int64) (x9 : Int32) (s0 : Int64) (ls : Array Slot) (hl : lv_has ls 16 [(0, .long x0), (2, .long x2), (5, .long x5), (9, .int x9)]) {w : Int64} (hw : w = f_I_sum_JJ_124 x0 x2 x5 x9 s0) : W p l e (headSpec (gw y_I_sum_JJ b_I_sum_JJ 16 (some .long)) ({ frames := 3, cells := 0, slots := 0, locals := 69 } : Room)).room s m args below meth c s.heap [] 0 0 (pu_Ql w below args s) (F0 m 124 ls [.long s0]) := by
  obtain ⟨hx, hb, hml, hown, hts, hr, hlocks⟩ := id C0
  refine lv_lstore (lv' := [(14, .long s0), (0, .long x0), (2, .long x2), (5, .long x5), (9, .int x9)]) hx hb d_I_sum_JJ_124 hl (by decide) rfl (fun ls hl => ?_)
  refine lv_lload hx hb d_I_sum_JJ_126 (lv_at hl 0 rfl) ?_
  refine lv_lconst (v := (0 : Int64)) hx hb d_I_sum_JJ_128 (by decide) ?_
  refine W.lcmp hx hb d_I_sum_JJ_129 ?_
  refine lv_if_ne (tgt := 141) hx hb d_I_sum_JJ_130 (by decide) (fun c1 => ?_) (fun c1 => ?_)
  · refine lv_lload hx hb d_I_sum_JJ_141 (lv_at hl 3 rfl) ?_
    refine lv_ldc2 (v := (-9223372036854775808 : Int64)) hx hb hown (hts _ (gm tw_93)) d_I_sum_JJ_143 ?_
    refine lv_land hx hb d_I_sum_JJ_146 ?_
    refine lv_iload hx hb d_I_sum_JJ_147 (lv_at hl 4 rfl) ?_
    refine lv_bipush (v := (9 : Int32)) hx hb d_I_sum_JJ_149 (by decide) ?_
    refine lv_isub hx hb d_I_sum_JJ_151 ?_
    refine lv_lload hx hb d_I_sum_JJ_152 (lv_at hl 0 rfl) ?_
    refine pu_l (As := [.long (x5 &&& (-9223372036854775808 : Int64)), .int (x9 - (9 : Int32)), .long s0]) (rest := []) ⟨hx, hb, hml, hown, hts⟩ (c_I_nearest_JIJ l _ (x5 &&& (-9223372036854775808 : Int64)) (x9 - (9 : Int32)) s0) pu_pre (gw_call (k := 3) hts tw_115 tw_116 tw_5 tw_117 (by decide +kernel) rfl rfl ⟨Nat.le_of_ble_eq_true rfl, Nat.le_of_ble_eq_true rfl⟩) rfl hl.1 rfl (Nat.le_of_ble_eq_true rfl) ⟨Nat.zero_le _, Nat.zero_le _⟩ d_I_sum_JJ_154 ?_
    exact pu_lret hx hb hr hlocks d_I_sum_JJ_157 (by exact Eq.symm (hw.trans (if_neg c1)))
  · refine lv_lload_n hx hb d_I_sum_JJ_133 rfl (lv_at hl 1 rfl) ?_
    refine lv_lload_n hx hb d_I_sum_JJ_134 rfl (lv_at hl 2 rfl) ?_
    refine lv_land hx hb d_I_sum_JJ_135 ?_
    refine lv_ldc2 (v := (-9223372036854775808 : Int64)) hx hb hown (hts _ (gm tw_93)) d_I_sum_JJ_136 ?_
    refine lv_land hx hb d_I_sum_JJ_139 ?_
    exact pu_lret hx hb hr hlocks d_I_sum_JJ_140 (by exact Eq.symm (hw.trans (if_pos c1)))
def f_I_sum_JJ_63 (x0 : Int64) (x2 : Int64) (x5 : Int64) (s0 : Int64) : Int64 :=
  let v1 : Int32 := f_I_power_J x5
  let v2 : Int64 := j_shl (f_I_significand_J x5) (9 : Int32)
  let v3 : Int64 := f_I_lowered_JI (j_shl (f_I_significand_J s0) (9 : Int32)) (v1 - (f_I_power_J s0))
  if 0 ≤ (lg_cmp (x0 ^^^ x2) (0 : Int64)) then
    f_I_sum_JJ_124 x0 x2 x5 v1 (v2 + v3)
  else
    f_I_sum_JJ_124 x0 x2 x5 v1 (v2 - v3)
set_option maxHeartbeats 4000000 in
set_option maxRecDepth 100000 in
theorem k_I_sum_JJ_63 {p : Program} {l : Launch} {e : Env} {s : State} {m : MethodId} {args : Array Value} {below : List Frame} {meth : Method} {c : Code} (C0 : pu_C p s m args meth c b_I_sum_JJ 16 "MotionLab$Ieee" (some .long) (gw y_I_sum_JJ b_I_sum_JJ 16 (some .long))) (x0 : Int64) (x2 : Int64) (x5 : Int64) (s0 : Int64) (ls : Array Slot) (hl : lv_has ls 16 [(0, .long x0), (2, .long x2), (5, .long x5)]) {w : Int64} (hw : w = f_I_sum_JJ_63 x0 x2 x5 s0) : W p l e (headSpec (gw y_I_sum_JJ b_I_sum_JJ 16 (some .long)) ({ frames := 3, cells := 0, slots := 0, locals := 69 } : Room)).room s m args below meth c s.heap [] 0 0 (pu_Ql w below args s) (F0 m 63 ls [.long s0]) := by
  obtain ⟨hx, hb, hml, hown, hts, hr, hlocks⟩ := id C0
  refine lv_lstore (lv' := [(7, .long s0), (0, .long x0), (2, .long x2), (5, .long x5)]) hx hb d_I_sum_JJ_63 hl (by decide) rfl (fun ls hl => ?_)
  refine lv_lload hx hb d_I_sum_JJ_65 (lv_at hl 3 rfl) ?_
  refine pu_i (As := [.long x5]) (rest := []) ⟨hx, hb, hml, hown, hts⟩ (c_I_power_J l _ x5) pu_pre (gw_call (k := 1) hts tw_94 tw_95 tw_5 tw_96 (by decide +kernel) rfl rfl ⟨Nat.le_of_ble_eq_true rfl, Nat.le_of_ble_eq_true rfl⟩) rfl hl.1 rfl (Nat.le_of_ble_eq_true rfl) ⟨Nat.zero_le _, Nat.zero_le _⟩ d_I_sum_JJ_67 ?_
  refine lv_topi (fun v1 e1 => ?_)
  refine lv_istore (lv' := [(9, .int v1), (7, .long s0), (0, .long x0), (2, .long x2), (5, .long x5)]) hx hb d_I_sum_JJ_70 hl (by decide) rfl (fun ls hl => ?_)
  refine lv_lload hx hb d_I_sum_JJ_72 (lv_at hl 4 rfl) ?_
  refine pu_l (As := [.long x5]) (rest := []) ⟨hx, hb, hml, hown, hts⟩ (c_I_significand_J l _ x5) pu_pre (gw_call (k := 1) hts tw_100 tw_101 tw_5 tw_102 (by decide +kernel) rfl rfl ⟨Nat.le_of_ble_eq_true rfl, Nat.le_of_ble_eq_true rfl⟩) rfl hl.1 rfl (Nat.le_of_ble_eq_true rfl) ⟨Nat.zero_le _, Nat.zero_le _⟩ d_I_sum_JJ_74 ?_
  refine lv_bipush (v := (9 : Int32)) hx hb d_I_sum_JJ_77 (by decide) ?_
  refine lv_lshl (v := j_shl (f_I_significand_J x5) (9 : Int32)) hx hb d_I_sum_JJ_79 rfl ?_
  refine lv_topl (fun v2 e2 => ?_)
  refine lv_lstore (lv' := [(10, .long v2), (9, .int v1), (7, .long s0), (0, .long x0), (2, .long x2), (5, .long x5)]) hx hb d_I_sum_JJ_80 hl (by decide) rfl (fun ls hl => ?_)
  refine lv_lload hx hb d_I_sum_JJ_82 (lv_at hl 2 rfl) ?_
  refine pu_l (As := [.long s0]) (rest := []) ⟨hx, hb, hml, hown, hts⟩ (c_I_significand_J l _ s0) pu_pre (gw_call (k := 1) hts tw_100 tw_101 tw_5 tw_102 (by decide +kernel) rfl rfl ⟨Nat.le_of_ble_eq_true rfl, Nat.le_of_ble_eq_true rfl⟩) rfl hl.1 rfl (Nat.le_of_ble_eq_true rfl) ⟨Nat.zero_le _, Nat.zero_le _⟩ d_I_sum_JJ_84 ?_
  refine lv_bipush (v := (9 : Int32)) hx hb d_I_sum_JJ_87 (by decide) ?_
  refine lv_lshl (v := j_shl (f_I_significand_J s0) (9 : Int32)) hx hb d_I_sum_JJ_89 rfl ?_
  refine lv_iload hx hb d_I_sum_JJ_90 (lv_at hl 1 rfl) ?_
  refine lv_lload hx hb d_I_sum_JJ_92 (lv_at hl 2 rfl) ?_
  refine pu_i (As := [.long s0]) (rest := [.int v1, .long (j_shl (f_I_significand_J s0) (9 : Int32))]) ⟨hx, hb, hml, hown, hts⟩ (c_I_power_J l _ s0) pu_pre (gw_call (k := 1) hts tw_94 tw_95 tw_5 tw_96 (by decide +kernel) rfl rfl ⟨Nat.le_of_ble_eq_true rfl, Nat.le_of_ble_eq_true rfl⟩) rfl hl.1 rfl (Nat.le_of_ble_eq_true rfl) ⟨Nat.zero_le _, Nat.zero_le _⟩ d_I_sum_JJ_94 ?_
  refine lv_isub hx hb d_I_sum_JJ_97 ?_
  refine pu_l (As := [.long (j_shl (f_I_significand_J s0) (9 : Int32)), .int (v1 - (f_I_power_J s0))]) (rest := []) ⟨hx, hb, hml, hown, hts⟩ (c_I_lowered_JI l _ (j_shl (f_I_significand_J s0) (9 : Int32)) (v1 - (f_I_power_J s0))) pu_pre (gw_call (k := 2) hts tw_200 tw_201 tw_5 tw_202 (by decide +kernel) rfl rfl ⟨Nat.le_of_ble_eq_true rfl, Nat.le_of_ble_eq_true rfl⟩) rfl hl.1 rfl (Nat.le_of_ble_eq_true rfl) ⟨Nat.zero_le _, Nat.zero_le _⟩ d_I_sum_JJ_98 ?_
  refine lv_topl (fun v3 e3 => ?_)
  refine lv_lstore (lv' := [(12, .long v3), (10, .long v2), (9, .int v1), (7, .long s0), (0, .long x0), (2, .long x2), (5, .long x5)]) hx hb d_I_sum_JJ_101 hl (by decide) rfl (fun ls hl => ?_)
  refine lv_lload_n hx hb d_I_sum_JJ_103 rfl (lv_at hl 4 rfl) ?_
  refine lv_lload_n hx hb d_I_sum_JJ_104 rfl (lv_at hl 5 rfl) ?_
  refine lv_lxor hx hb d_I_sum_JJ_105 ?_
  refine lv_lconst (v := (0 : Int64)) hx hb d_I_sum_JJ_106 (by decide) ?_
  refine W.lcmp hx hb d_I_sum_JJ_107 ?_
  refine lv_if_ge (tgt := 119) hx hb d_I_sum_JJ_108 (by decide) (fun c4 => ?_) (fun c4 => ?_)
  · refine lv_lload hx hb d_I_sum_JJ_119 (lv_at hl 1 rfl) ?_
    refine lv_lload hx hb d_I_sum_JJ_121 (lv_at hl 0 rfl) ?_
    refine lv_ladd hx hb d_I_sum_JJ_123 ?_
    exact k_I_sum_JJ_124 C0 x0 x2 x5 v1 (v2 + v3) ls (lv_sub hl [4, 5, 6, 2] rfl) (by have qe1 := e1.symm; have qe2 := e2.symm; have qe3 := e3.symm; subst qe1 qe2 qe3; exact (hw.trans (if_pos c4)))
  · refine lv_lload hx hb d_I_sum_JJ_111 (lv_at hl 1 rfl) ?_
    refine lv_lload hx hb d_I_sum_JJ_113 (lv_at hl 0 rfl) ?_
    refine lv_lsub hx hb d_I_sum_JJ_115 ?_
    refine lv_goto (tgt := 124) hx hb d_I_sum_JJ_116 (by decide) ?_
    exact k_I_sum_JJ_124 C0 x0 x2 x5 v1 (v2 - v3) ls (lv_sub hl [4, 5, 6, 2] rfl) (by have qe1 := e1.symm; have qe2 := e2.symm; have qe3 := e3.symm; subst qe1 qe2 qe3; exact (hw.trans (if_neg c4)))
def f_I_sum_JJ_51 (x0 : Int64) (x2 : Int64) (x4 : Int32) (s0 : Int64) : Int64 :=
  if x4 = 0 then
    f_I_sum_JJ_63 x0 x2 s0 x2
  else
    f_I_sum_JJ_63 x0 x2 s0 x0
set_option maxHeartbeats 4000000 in
set_option maxRecDepth 100000 in
theorem k_I_sum_JJ_51 {p : Program} {l : Launch} {e : Env} {s : State} {m : MethodId} {args : Array Value} {below : List Frame} {meth : Method} {c : Code} (C0 : pu_C p s m args meth c b_I_sum_JJ 16 "MotionLab$Ieee" (some .long) (gw y_I_sum_JJ b_I_sum_JJ 16 (some .long))) (x0 : Int64) (x2 : Int64) (x4 : Int32) (s0 : Int64) (ls : Array Slot) (hl : lv_has ls 16 [(0, .long x0), (2, .long x2), (4, .int x4)]) {w : Int64} (hw : w = f_I_sum_JJ_51 x0 x2 x4 s0) : W p l e (headSpec (gw y_I_sum_JJ b_I_sum_JJ 16 (some .long)) ({ frames := 3, cells := 0, slots := 0, locals := 69 } : Room)).room s m args below meth c s.heap [] 0 0 (pu_Ql w below args s) (F0 m 51 ls [.long s0]) := by
  obtain ⟨hx, hb, hml, hown, hts, hr, hlocks⟩ := id C0
  refine lv_lstore (lv' := [(5, .long s0), (0, .long x0), (2, .long x2), (4, .int x4)]) hx hb d_I_sum_JJ_51 hl (by decide) rfl (fun ls hl => ?_)
  refine lv_iload hx hb d_I_sum_JJ_53 (lv_at hl 3 rfl) ?_
  refine lv_if_eq (tgt := 62) hx hb d_I_sum_JJ_55 (by decide) (fun c1 => ?_) (fun c1 => ?_)
  · refine lv_lload_n hx hb d_I_sum_JJ_62 rfl (lv_at hl 2 rfl) ?_
    exact k_I_sum_JJ_63 C0 x0 x2 s0 x2 ls (lv_sub hl [1, 2, 0] rfl) (by exact (hw.trans (if_pos c1)))
  · refine lv_lload_n hx hb d_I_sum_JJ_58 rfl (lv_at hl 1 rfl) ?_
    refine lv_goto (tgt := 63) hx hb d_I_sum_JJ_59 (by decide) ?_
    exact k_I_sum_JJ_63 C0 x0 x2 s0 x0 ls (lv_sub hl [1, 2, 0] rfl) (by exact (hw.trans (if_neg c1)))
def f_I_sum_JJ_39 (x0 : Int64) (x2 : Int64) (s0 : Int32) : Int64 :=
  if s0 = 0 then
    f_I_sum_JJ_51 x0 x2 s0 x0
  else
    f_I_sum_JJ_51 x0 x2 s0 x2
set_option maxHeartbeats 4000000 in
set_option maxRecDepth 100000 in
theorem k_I_sum_JJ_39 {p : Program} {l : Launch} {e : Env} {s : State} {m : MethodId} {args : Array Value} {below : List Frame} {meth : Method} {c : Code} (C0 : pu_C p s m args meth c b_I_sum_JJ 16 "MotionLab$Ieee" (some .long) (gw y_I_sum_JJ b_I_sum_JJ 16 (some .long))) (x0 : Int64) (x2 : Int64) (s0 : Int32) (ls : Array Slot) (hl : lv_has ls 16 [(0, .long x0), (2, .long x2)]) {w : Int64} (hw : w = f_I_sum_JJ_39 x0 x2 s0) : W p l e (headSpec (gw y_I_sum_JJ b_I_sum_JJ 16 (some .long)) ({ frames := 3, cells := 0, slots := 0, locals := 69 } : Room)).room s m args below meth c s.heap [] 0 0 (pu_Ql w below args s) (F0 m 39 ls [.int s0]) := by
  obtain ⟨hx, hb, hml, hown, hts, hr, hlocks⟩ := id C0
  refine lv_istore (lv' := [(4, .int s0), (0, .long x0), (2, .long x2)]) hx hb d_I_sum_JJ_39 hl (by decide) rfl (fun ls hl => ?_)
  refine lv_iload hx hb d_I_sum_JJ_41 (lv_at hl 0 rfl) ?_
  refine lv_if_eq (tgt := 50) hx hb d_I_sum_JJ_43 (by decide) (fun c1 => ?_) (fun c1 => ?_)
  · refine lv_lload_n hx hb d_I_sum_JJ_50 rfl (lv_at hl 1 rfl) ?_
    exact k_I_sum_JJ_51 C0 x0 x2 s0 x0 ls (lv_sub hl [1, 2, 0] rfl) (by exact (hw.trans (if_pos c1)))
  · refine lv_lload_n hx hb d_I_sum_JJ_46 rfl (lv_at hl 2 rfl) ?_
    refine lv_goto (tgt := 51) hx hb d_I_sum_JJ_47 (by decide) ?_
    exact k_I_sum_JJ_51 C0 x0 x2 s0 x2 ls (lv_sub hl [1, 2, 0] rfl) (by exact (hw.trans (if_neg c1)))
def f_I_sum_JJ (x0 : Int64) (x2 : Int64) : Int64 :=
  if (f_I_isFinite_J x0) = 0 then
    f_I_unendingSum_JJ x0 x2
  else
    if (f_I_isFinite_J x2) = 0 then
      f_I_unendingSum_JJ x0 x2
    else
      if 0 ≤ (lg_cmp (x0 &&& (9223372036854775807 : Int64)) (x2 &&& (9223372036854775807 : Int64))) then
        f_I_sum_JJ_39 x0 x2 (0 : Int32)
      else
        f_I_sum_JJ_39 x0 x2 (1 : Int32)
set_option maxHeartbeats 4000000 in
set_option maxRecDepth 100000 in
theorem c_I_sum_JJ (l : Launch) (h : Heap) (x0 : Int64) (x2 : Int64) : Met l y_I_sum_JJ (gw y_I_sum_JJ b_I_sum_JJ 16 (some .long)) { frames := 3, cells := 0, slots := 0, locals := 69 } (pu_Pc [.long x0, .long x2] h) (pu_Ml (f_I_sum_JJ x0 x2) h) 0 0 (fun _ => False) := by
  refine Met.ofW (cc := b_I_sum_JJ) (maxL := 16) (ret := (some .long)) (by decide) rfl ?_
  intro p e s m args below meth c s₁ B hml hv
  obtain ⟨rfl, hh⟩ := hv
  subst hh
  have hx := B.exec
  have hb := B.bytes
  have hr := B.returns
  have hts := atoms_spec (ws := (gw y_I_sum_JJ b_I_sum_JJ 16 (some .long))) B.pre
  have hown : s.vm.findClass "MotionLab$Ieee" = some m.cls := findClass_of_methodNamed B.named
  have hlocks := B.notSynchronized
  have C0 : pu_C p s m _ meth c b_I_sum_JJ 16 "MotionLab$Ieee" (some .long) (gw y_I_sum_JJ b_I_sum_JJ 16 (some .long)) := ⟨hx, hb, hml, hown, hts, hr, hlocks⟩
  have hl := lv_entry ([.long x0, .long x2]) (n := 16) (Nat.le_of_ble_eq_true rfl)
  rw [lg_entry_eq]
  generalize (lg_sl ([.long x0, .long x2]) ++ List.replicate (16 - (lg_sl ([.long x0, .long x2])).length) Slot.unset).toArray = ls at hl ⊢
  have hl : lv_has ls 16 [(0, .long x0), (2, .long x2)] := hl
  refine lv_lload_n hx hb d_I_sum_JJ_0 rfl (lv_at hl 0 rfl) ?_
  refine pu_i (As := [.long x0]) (rest := []) ⟨hx, hb, hml, hown, hts⟩ (c_I_isFinite_J l _ x0) pu_pre (gw_call (k := 1) hts tw_81 tw_82 tw_5 tw_83 (by decide +kernel) rfl rfl ⟨Nat.le_of_ble_eq_true rfl, Nat.le_of_ble_eq_true rfl⟩) rfl hl.1 rfl (Nat.le_of_ble_eq_true rfl) ⟨Nat.zero_le _, Nat.zero_le _⟩ d_I_sum_JJ_1 ?_
  refine lv_if_eq (tgt := 14) hx hb d_I_sum_JJ_4 (by decide) (fun c1 => ?_) (fun c1 => ?_)
  · refine lv_lload_n hx hb d_I_sum_JJ_14 rfl (lv_at hl 0 rfl) ?_
    refine lv_lload_n hx hb d_I_sum_JJ_15 rfl (lv_at hl 1 rfl) ?_
    refine pu_l (As := [.long x0, .long x2]) (rest := []) ⟨hx, hb, hml, hown, hts⟩ (c_I_unendingSum_JJ l _ x0 x2) pu_pre (gw_call (k := 2) hts tw_194 tw_195 tw_5 tw_196 (by decide +kernel) rfl rfl ⟨Nat.le_of_ble_eq_true rfl, Nat.le_of_ble_eq_true rfl⟩) rfl hl.1 rfl (Nat.le_of_ble_eq_true rfl) ⟨Nat.zero_le _, Nat.zero_le _⟩ d_I_sum_JJ_16 ?_
    exact pu_lret hx hb hr hlocks d_I_sum_JJ_19 (by exact Eq.symm (if_pos c1))
  · refine lv_lload_n hx hb d_I_sum_JJ_7 rfl (lv_at hl 1 rfl) ?_
    refine pu_i (As := [.long x2]) (rest := []) ⟨hx, hb, hml, hown, hts⟩ (c_I_isFinite_J l _ x2) pu_pre (gw_call (k := 1) hts tw_81 tw_82 tw_5 tw_83 (by decide +kernel) rfl rfl ⟨Nat.le_of_ble_eq_true rfl, Nat.le_of_ble_eq_true rfl⟩) rfl hl.1 rfl (Nat.le_of_ble_eq_true rfl) ⟨Nat.zero_le _, Nat.zero_le _⟩ d_I_sum_JJ_8 ?_
    refine lv_if_ne (tgt := 20) hx hb d_I_sum_JJ_11 (by decide) (fun c2 => ?_) (fun c2 => ?_)
    · refine lv_lload_n hx hb d_I_sum_JJ_20 rfl (lv_at hl 0 rfl) ?_
      refine lv_ldc2 (v := (9223372036854775807 : Int64)) hx hb hown (hts _ (gm tw_84)) d_I_sum_JJ_21 ?_
      refine lv_land hx hb d_I_sum_JJ_24 ?_
      refine lv_lload_n hx hb d_I_sum_JJ_25 rfl (lv_at hl 1 rfl) ?_
      refine lv_ldc2 (v := (9223372036854775807 : Int64)) hx hb hown (hts _ (gm tw_84)) d_I_sum_JJ_26 ?_
      refine lv_land hx hb d_I_sum_JJ_29 ?_
      refine W.lcmp hx hb d_I_sum_JJ_30 ?_
      refine lv_if_ge (tgt := 38) hx hb d_I_sum_JJ_31 (by decide) (fun c3 => ?_) (fun c3 => ?_)
      · refine lv_iconst (v := 0) hx hb d_I_sum_JJ_38 (by decide) ?_
        exact k_I_sum_JJ_39 C0 x0 x2 (0 : Int32) ls (lv_sub hl [0, 1] rfl) (by exact (Eq.trans (if_neg c1) (Eq.trans (if_neg c2) (if_pos c3))))
      · refine lv_iconst (v := 1) hx hb d_I_sum_JJ_34 (by decide) ?_
        refine lv_goto (tgt := 39) hx hb d_I_sum_JJ_35 (by decide) ?_
        exact k_I_sum_JJ_39 C0 x0 x2 (1 : Int32) ls (lv_sub hl [0, 1] rfl) (by exact (Eq.trans (if_neg c1) (Eq.trans (if_neg c2) (if_neg c3))))
    · refine lv_lload_n hx hb d_I_sum_JJ_14 rfl (lv_at hl 0 rfl) ?_
      refine lv_lload_n hx hb d_I_sum_JJ_15 rfl (lv_at hl 1 rfl) ?_
      refine pu_l (As := [.long x0, .long x2]) (rest := []) ⟨hx, hb, hml, hown, hts⟩ (c_I_unendingSum_JJ l _ x0 x2) pu_pre (gw_call (k := 2) hts tw_194 tw_195 tw_5 tw_196 (by decide +kernel) rfl rfl ⟨Nat.le_of_ble_eq_true rfl, Nat.le_of_ble_eq_true rfl⟩) rfl hl.1 rfl (Nat.le_of_ble_eq_true rfl) ⟨Nat.zero_le _, Nat.zero_le _⟩ d_I_sum_JJ_16 ?_
      exact pu_lret hx hb hr hlocks d_I_sum_JJ_19 (by exact Eq.symm (Eq.trans (if_neg c1) (if_pos c2)))
-- ===== MotionLab$Ieee.difference(JJ)J
abbrev y_I_difference_JJ : MethodName := ⟨"MotionLab$Ieee", "difference", "(JJ)J"⟩
abbrev b_I_difference_JJ : ByteArray := prog_2_method_15_code
theorem d_I_difference_JJ_0 : decode b_I_difference_JJ 0 = .ok (.lload_n 0, 1) := by decide +kernel
theorem d_I_difference_JJ_1 : decode b_I_difference_JJ 1 = .ok (.lload_n 2, 1) := by decide +kernel
theorem d_I_difference_JJ_2 : decode b_I_difference_JJ 2 = .ok (.ldc2_w 19, 3) := by decide +kernel
theorem d_I_difference_JJ_5 : decode b_I_difference_JJ 5 = .ok (.lxor, 1) := by decide +kernel
theorem d_I_difference_JJ_6 : decode b_I_difference_JJ 6 = .ok (.invokestatic 59, 3) := by decide +kernel
theorem d_I_difference_JJ_9 : decode b_I_difference_JJ 9 = .ok (.lreturn, 1) := by decide +kernel
def f_I_difference_JJ (x0 : Int64) (x2 : Int64) : Int64 :=
  f_I_sum_JJ x0 (x2 ^^^ (-9223372036854775808 : Int64))
set_option maxHeartbeats 4000000 in
set_option maxRecDepth 100000 in
theorem c_I_difference_JJ (l : Launch) (h : Heap) (x0 : Int64) (x2 : Int64) : Met l y_I_difference_JJ (gw y_I_difference_JJ b_I_difference_JJ 4 (some .long)) { frames := 4, cells := 0, slots := 0, locals := 104 } (pu_Pc [.long x0, .long x2] h) (pu_Ml (f_I_difference_JJ x0 x2) h) 0 0 (fun _ => False) := by
  refine Met.ofW (cc := b_I_difference_JJ) (maxL := 4) (ret := (some .long)) (by decide) rfl ?_
  intro p e s m args below meth c s₁ B hml hv
  obtain ⟨rfl, hh⟩ := hv
  subst hh
  have hx := B.exec
  have hb := B.bytes
  have hr := B.returns
  have hts := atoms_spec (ws := (gw y_I_difference_JJ b_I_difference_JJ 4 (some .long))) B.pre
  have hown : s.vm.findClass "MotionLab$Ieee" = some m.cls := findClass_of_methodNamed B.named
  have hlocks := B.notSynchronized
  have C0 : pu_C p s m _ meth c b_I_difference_JJ 4 "MotionLab$Ieee" (some .long) (gw y_I_difference_JJ b_I_difference_JJ 4 (some .long)) := ⟨hx, hb, hml, hown, hts, hr, hlocks⟩
  have hl := lv_entry ([.long x0, .long x2]) (n := 4) (Nat.le_of_ble_eq_true rfl)
  rw [lg_entry_eq]
  generalize (lg_sl ([.long x0, .long x2]) ++ List.replicate (4 - (lg_sl ([.long x0, .long x2])).length) Slot.unset).toArray = ls at hl ⊢
  have hl : lv_has ls 4 [(0, .long x0), (2, .long x2)] := hl
  refine lv_lload_n hx hb d_I_difference_JJ_0 rfl (lv_at hl 0 rfl) ?_
  refine lv_lload_n hx hb d_I_difference_JJ_1 rfl (lv_at hl 1 rfl) ?_
  refine lv_ldc2 (v := (-9223372036854775808 : Int64)) hx hb hown (hts _ (gm tw_93)) d_I_difference_JJ_2 ?_
  refine lv_lxor hx hb d_I_difference_JJ_5 ?_
  refine pu_l (As := [.long x0, .long (x2 ^^^ (-9223372036854775808 : Int64))]) (rest := []) ⟨hx, hb, hml, hown, hts⟩ (c_I_sum_JJ l _ x0 (x2 ^^^ (-9223372036854775808 : Int64))) pu_pre (gw_call (k := 2) hts tw_191 tw_192 tw_5 tw_193 (by decide +kernel) rfl rfl ⟨Nat.le_of_ble_eq_true rfl, Nat.le_of_ble_eq_true rfl⟩) rfl hl.1 rfl (Nat.le_of_ble_eq_true rfl) ⟨Nat.zero_le _, Nat.zero_le _⟩ d_I_difference_JJ_6 ?_
  exact pu_lret hx hb hr hlocks d_I_difference_JJ_9 (by exact Eq.symm rfl)
-- ===== MotionLab$Ieee.products(JJJJ)J
abbrev y_I_products_JJJJ : MethodName := ⟨"MotionLab$Ieee", "products", "(JJJJ)J"⟩
abbrev b_I_products_JJJJ : ByteArray := prog_2_method_18_code
theorem d_I_products_JJJJ_0 : decode b_I_products_JJJJ 0 = .ok (.lload_n 0, 1) := by decide +kernel
theorem d_I_products_JJJJ_1 : decode b_I_products_JJJJ 1 = .ok (.lload_n 2, 1) := by decide +kernel
theorem d_I_products_JJJJ_2 : decode b_I_products_JJJJ 2 = .ok (.invokestatic 75, 3) := by decide +kernel
theorem d_I_products_JJJJ_5 : decode b_I_products_JJJJ 5 = .ok (.lload 4, 2) := by decide +kernel
theorem d_I_products_JJJJ_7 : decode b_I_products_JJJJ 7 = .ok (.lload 6, 2) := by decide +kernel
theorem d_I_products_JJJJ_9 : decode b_I_products_JJJJ 9 = .ok (.invokestatic 75, 3) := by decide +kernel
theorem d_I_products_JJJJ_12 : decode b_I_products_JJJJ 12 = .ok (.invokestatic 59, 3) := by decide +kernel
theorem d_I_products_JJJJ_15 : decode b_I_products_JJJJ 15 = .ok (.lreturn, 1) := by decide +kernel
def f_I_products_JJJJ (x0 : Int64) (x2 : Int64) (x4 : Int64) (x6 : Int64) : Int64 :=
  f_I_sum_JJ (f_I_product_JJ x0 x2) (f_I_product_JJ x4 x6)
set_option maxHeartbeats 4000000 in
set_option maxRecDepth 100000 in
theorem c_I_products_JJJJ (l : Launch) (h : Heap) (x0 : Int64) (x2 : Int64) (x4 : Int64) (x6 : Int64) : Met l y_I_products_JJJJ (gw y_I_products_JJJJ b_I_products_JJJJ 8 (some .long)) { frames := 4, cells := 0, slots := 0, locals := 104 } (pu_Pc [.long x0, .long x2, .long x4, .long x6] h) (pu_Ml (f_I_products_JJJJ x0 x2 x4 x6) h) 0 0 (fun _ => False) := by
  refine Met.ofW (cc := b_I_products_JJJJ) (maxL := 8) (ret := (some .long)) (by decide) rfl ?_
  intro p e s m args below meth c s₁ B hml hv
  obtain ⟨rfl, hh⟩ := hv
  subst hh
  have hx := B.exec
  have hb := B.bytes
  have hr := B.returns
  have hts := atoms_spec (ws := (gw y_I_products_JJJJ b_I_products_JJJJ 8 (some .long))) B.pre
  have hown : s.vm.findClass "MotionLab$Ieee" = some m.cls := findClass_of_methodNamed B.named
  have hlocks := B.notSynchronized
  have C0 : pu_C p s m _ meth c b_I_products_JJJJ 8 "MotionLab$Ieee" (some .long) (gw y_I_products_JJJJ b_I_products_JJJJ 8 (some .long)) := ⟨hx, hb, hml, hown, hts, hr, hlocks⟩
  have hl := lv_entry ([.long x0, .long x2, .long x4, .long x6]) (n := 8) (Nat.le_of_ble_eq_true rfl)
  rw [lg_entry_eq]
  generalize (lg_sl ([.long x0, .long x2, .long x4, .long x6]) ++ List.replicate (8 - (lg_sl ([.long x0, .long x2, .long x4, .long x6])).length) Slot.unset).toArray = ls at hl ⊢
  have hl : lv_has ls 8 [(0, .long x0), (2, .long x2), (4, .long x4), (6, .long x6)] := hl
  refine lv_lload_n hx hb d_I_products_JJJJ_0 rfl (lv_at hl 0 rfl) ?_
  refine lv_lload_n hx hb d_I_products_JJJJ_1 rfl (lv_at hl 1 rfl) ?_
  refine pu_l (As := [.long x0, .long x2]) (rest := []) ⟨hx, hb, hml, hown, hts⟩ (c_I_product_JJ l _ x0 x2) pu_pre (gw_call (k := 2) hts tw_218 tw_175 tw_5 tw_176 (by decide +kernel) rfl rfl ⟨Nat.le_of_ble_eq_true rfl, Nat.le_of_ble_eq_true rfl⟩) rfl hl.1 rfl (Nat.le_of_ble_eq_true rfl) ⟨Nat.zero_le _, Nat.zero_le _⟩ d_I_products_JJJJ_2 ?_
  refine lv_lload hx hb d_I_products_JJJJ_5 (lv_at hl 2 rfl) ?_
  refine lv_lload hx hb d_I_products_JJJJ_7 (lv_at hl 3 rfl) ?_
  refine pu_l (As := [.long x4, .long x6]) (rest := [.long (f_I_product_JJ x0 x2)]) ⟨hx, hb, hml, hown, hts⟩ (c_I_product_JJ l _ x4 x6) pu_pre (gw_call (k := 2) hts tw_218 tw_175 tw_5 tw_176 (by decide +kernel) rfl rfl ⟨Nat.le_of_ble_eq_true rfl, Nat.le_of_ble_eq_true rfl⟩) rfl hl.1 rfl (Nat.le_of_ble_eq_true rfl) ⟨Nat.zero_le _, Nat.zero_le _⟩ d_I_products_JJJJ_9 ?_
  refine pu_l (As := [.long (f_I_product_JJ x0 x2), .long (f_I_product_JJ x4 x6)]) (rest := []) ⟨hx, hb, hml, hown, hts⟩ (c_I_sum_JJ l _ (f_I_product_JJ x0 x2) (f_I_product_JJ x4 x6)) pu_pre (gw_call (k := 2) hts tw_191 tw_192 tw_5 tw_193 (by decide +kernel) rfl rfl ⟨Nat.le_of_ble_eq_true rfl, Nat.le_of_ble_eq_true rfl⟩) rfl hl.1 rfl (Nat.le_of_ble_eq_true rfl) ⟨Nat.zero_le _, Nat.zero_le _⟩ d_I_products_JJJJ_12 ?_
  exact pu_lret hx hb hr hlocks d_I_products_JJJJ_15 (by exact Eq.symm rfl)
-- ===== MotionLab$Ieee.unendingQuotient(JJ)J
abbrev y_I_unendingQuotient_JJ : MethodName := ⟨"MotionLab$Ieee", "unendingQuotient", "(JJ)J"⟩
abbrev b_I_unendingQuotient_JJ : ByteArray := prog_2_method_20_code
theorem d_I_unendingQuotient_JJ_0 : decode b_I_unendingQuotient_JJ 0 = .ok (.lload_n 0, 1) := by decide +kernel
theorem d_I_unendingQuotient_JJ_1 : decode b_I_unendingQuotient_JJ 1 = .ok (.invokestatic 13, 3) := by decide +kernel
theorem d_I_unendingQuotient_JJ_4 : decode b_I_unendingQuotient_JJ 4 = .ok (.ifCond .ne 24, 3) := by decide +kernel
theorem d_I_unendingQuotient_JJ_7 : decode b_I_unendingQuotient_JJ 7 = .ok (.lload_n 2, 1) := by decide +kernel
theorem d_I_unendingQuotient_JJ_8 : decode b_I_unendingQuotient_JJ 8 = .ok (.invokestatic 13, 3) := by decide +kernel
theorem d_I_unendingQuotient_JJ_11 : decode b_I_unendingQuotient_JJ 11 = .ok (.ifCond .ne 17, 3) := by decide +kernel
theorem d_I_unendingQuotient_JJ_14 : decode b_I_unendingQuotient_JJ 14 = .ok (.lload_n 0, 1) := by decide +kernel
theorem d_I_unendingQuotient_JJ_15 : decode b_I_unendingQuotient_JJ 15 = .ok (.invokestatic 56, 3) := by decide +kernel
theorem d_I_unendingQuotient_JJ_18 : decode b_I_unendingQuotient_JJ 18 = .ok (.ifCond .eq 14, 3) := by decide +kernel
theorem d_I_unendingQuotient_JJ_21 : decode b_I_unendingQuotient_JJ 21 = .ok (.lload_n 2, 1) := by decide +kernel
theorem d_I_unendingQuotient_JJ_22 : decode b_I_unendingQuotient_JJ 22 = .ok (.invokestatic 56, 3) := by decide +kernel
theorem d_I_unendingQuotient_JJ_25 : decode b_I_unendingQuotient_JJ 25 = .ok (.ifCond .eq 7, 3) := by decide +kernel
theorem d_I_unendingQuotient_JJ_28 : decode b_I_unendingQuotient_JJ 28 = .ok (.ldc2_w 17, 3) := by decide +kernel
theorem d_I_unendingQuotient_JJ_31 : decode b_I_unendingQuotient_JJ 31 = .ok (.lreturn, 1) := by decide +kernel
theorem d_I_unendingQuotient_JJ_32 : decode b_I_unendingQuotient_JJ 32 = .ok (.lload_n 0, 1) := by decide +kernel
theorem d_I_unendingQuotient_JJ_33 : decode b_I_unendingQuotient_JJ 33 = .ok (.lload_n 2, 1) := by decide +kernel
theorem d_I_unendingQuotient_JJ_34 : decode b_I_unendingQuotient_JJ 34 = .ok (.lxor, 1) := by decide +kernel
theorem d_I_unendingQuotient_JJ_35 : decode b_I_unendingQuotient_JJ 35 = .ok (.ldc2_w 19, 3) := by decide +kernel
theorem d_I_unendingQuotient_JJ_38 : decode b_I_unendingQuotient_JJ 38 = .ok (.land, 1) := by decide +kernel
theorem d_I_unendingQuotient_JJ_39 : decode b_I_unendingQuotient_JJ 39 = .ok (.lstore 4, 2) := by decide +kernel
theorem d_I_unendingQuotient_JJ_41 : decode b_I_unendingQuotient_JJ 41 = .ok (.lload_n 0, 1) := by decide +kernel
theorem d_I_unendingQuotient_JJ_42 : decode b_I_unendingQuotient_JJ 42 = .ok (.invokestatic 56, 3) := by decide +kernel
theorem d_I_unendingQuotient_JJ_45 : decode b_I_unendingQuotient_JJ 45 = .ok (.ifCond .eq 12, 3) := by decide +kernel
theorem d_I_unendingQuotient_JJ_48 : decode b_I_unendingQuotient_JJ 48 = .ok (.lload 4, 2) := by decide +kernel
theorem d_I_unendingQuotient_JJ_50 : decode b_I_unendingQuotient_JJ 50 = .ok (.ldc2_w 11, 3) := by decide +kernel
theorem d_I_unendingQuotient_JJ_53 : decode b_I_unendingQuotient_JJ 53 = .ok (.lor, 1) := by decide +kernel
theorem d_I_unendingQuotient_JJ_54 : decode b_I_unendingQuotient_JJ 54 = .ok (.goto 5, 3) := by decide +kernel
theorem d_I_unendingQuotient_JJ_57 : decode b_I_unendingQuotient_JJ 57 = .ok (.lload 4, 2) := by decide +kernel
theorem d_I_unendingQuotient_JJ_59 : decode b_I_unendingQuotient_JJ 59 = .ok (.lreturn, 1) := by decide +kernel
def f_I_unendingQuotient_JJ_32 (x0 : Int64) (x2 : Int64) : Int64 :=
  let v1 : Int64 := (x0 ^^^ x2) &&& (-9223372036854775808 : Int64)
  if (f_I_isInfinite_J x0) = 0 then
    v1
  else
    v1 ||| (9218868437227405312 : Int64)
set_option maxHeartbeats 4000000 in
set_option maxRecDepth 100000 in
theorem k_I_unendingQuotient_JJ_32 {p : Program} {l : Launch} {e : Env} {s : State} {m : MethodId} {args : Array Value} {below : List Frame} {meth : Method} {c : Code} (C0 : pu_C p s m args meth c b_I_unendingQuotient_JJ 6 "MotionLab$Ieee" (some .long) (gw y_I_unendingQuotient_JJ b_I_unendingQuotient_JJ 6 (some .long))) (x0 : Int64) (x2 : Int64) (ls : Array Slot) (hl : lv_has ls 6 [(0, .long x0), (2, .long x2)]) {w : Int64} (hw : w = f_I_unendingQuotient_JJ_32 x0 x2) : W p l e (headSpec (gw y_I_unendingQuotient_JJ b_I_unendingQuotient_JJ 6 (some .long)) ({ frames := 1, cells := 0, slots := 0, locals := 21 } : Room)).room s m args below meth c s.heap [] 0 0 (pu_Ql w below args s) (F0 m 32 ls []) := by
  obtain ⟨hx, hb, hml, hown, hts, hr, hlocks⟩ := id C0
  refine lv_lload_n hx hb d_I_unendingQuotient_JJ_32 rfl (lv_at hl 0 rfl) ?_
  refine lv_lload_n hx hb d_I_unendingQuotient_JJ_33 rfl (lv_at hl 1 rfl) ?_
  refine lv_lxor hx hb d_I_unendingQuotient_JJ_34 ?_
  refine lv_ldc2 (v := (-9223372036854775808 : Int64)) hx hb hown (hts _ (gm tw_93)) d_I_unendingQuotient_JJ_35 ?_
  refine lv_land hx hb d_I_unendingQuotient_JJ_38 ?_
  refine lv_topl (fun v1 e1 => ?_)
  refine lv_lstore (lv' := [(4, .long v1), (0, .long x0), (2, .long x2)]) hx hb d_I_unendingQuotient_JJ_39 hl (by decide) rfl (fun ls hl => ?_)
  refine lv_lload_n hx hb d_I_unendingQuotient_JJ_41 rfl (lv_at hl 1 rfl) ?_
  refine pu_i (As := [.long x0]) (rest := []) ⟨hx, hb, hml, hown, hts⟩ (c_I_isInfinite_J l _ x0) pu_pre (gw_call (k := 1) hts tw_197 tw_198 tw_5 tw_199 (by decide +kernel) rfl rfl ⟨Nat.le_of_ble_eq_true rfl, Nat.le_of_ble_eq_true rfl⟩) rfl hl.1 rfl (Nat.le_of_ble_eq_true rfl) ⟨Nat.zero_le _, Nat.zero_le _⟩ d_I_unendingQuotient_JJ_42 ?_
  refine lv_if_eq (tgt := 57) hx hb d_I_unendingQuotient_JJ_45 (by decide) (fun c2 => ?_) (fun c2 => ?_)
  · refine lv_lload hx hb d_I_unendingQuotient_JJ_57 (lv_at hl 0 rfl) ?_
    exact pu_lret hx hb hr hlocks d_I_unendingQuotient_JJ_59 (by have qe1 := e1.symm; subst qe1; exact Eq.symm (hw.trans (if_pos c2)))
  · refine lv_lload hx hb d_I_unendingQuotient_JJ_48 (lv_at hl 0 rfl) ?_
    refine lv_ldc2 (v := (9218868437227405312 : Int64)) hx hb hown (hts _ (gm tw_85)) d_I_unendingQuotient_JJ_50 ?_
    refine lv_lor hx hb d_I_unendingQuotient_JJ_53 ?_
    refine lv_goto (tgt := 59) hx hb d_I_unendingQuotient_JJ_54 (by decide) ?_
    exact pu_lret hx hb hr hlocks d_I_unendingQuotient_JJ_59 (by have qe1 := e1.symm; subst qe1; exact Eq.symm (hw.trans (if_neg c2)))
def f_I_unendingQuotient_JJ (x0 : Int64) (x2 : Int64) : Int64 :=
  if (f_I_isNoNumber_J x0) = 0 then
    if (f_I_isNoNumber_J x2) = 0 then
      if (f_I_isInfinite_J x0) = 0 then
        f_I_unendingQuotient_JJ_32 x0 x2
      else
        if (f_I_isInfinite_J x2) = 0 then
          f_I_unendingQuotient_JJ_32 x0 x2
        else
          (9221120237041090560 : Int64)
    else
      (9221120237041090560 : Int64)
  else
    (9221120237041090560 : Int64)
set_option maxHeartbeats 4000000 in
set_option maxRecDepth 100000 in
theorem c_I_unendingQuotient_JJ (l : Launch) (h : Heap) (x0 : Int64) (x2 : Int64) : Met l y_I_unendingQuotient_JJ (gw y_I_unendingQuotient_JJ b_I_unendingQuotient_JJ 6 (some .long)) { frames := 1, cells := 0, slots := 0, locals := 21 } (pu_Pc [.long x0, .long x2] h) (pu_Ml (f_I_unendingQuotient_JJ x0 x2) h) 0 0 (fun _ => False) := by
  refine Met.ofW (cc := b_I_unendingQuotient_JJ) (maxL := 6) (ret := (some .long)) (by decide) rfl ?_
  intro p e s m args below meth c s₁ B hml hv
  obtain ⟨rfl, hh⟩ := hv
  subst hh
  have hx := B.exec
  have hb := B.bytes
  have hr := B.returns
  have hts := atoms_spec (ws := (gw y_I_unendingQuotient_JJ b_I_unendingQuotient_JJ 6 (some .long))) B.pre
  have hown : s.vm.findClass "MotionLab$Ieee" = some m.cls := findClass_of_methodNamed B.named
  have hlocks := B.notSynchronized
  have C0 : pu_C p s m _ meth c b_I_unendingQuotient_JJ 6 "MotionLab$Ieee" (some .long) (gw y_I_unendingQuotient_JJ b_I_unendingQuotient_JJ 6 (some .long)) := ⟨hx, hb, hml, hown, hts, hr, hlocks⟩
  have hl := lv_entry ([.long x0, .long x2]) (n := 6) (Nat.le_of_ble_eq_true rfl)
  rw [lg_entry_eq]
  generalize (lg_sl ([.long x0, .long x2]) ++ List.replicate (6 - (lg_sl ([.long x0, .long x2])).length) Slot.unset).toArray = ls at hl ⊢
  have hl : lv_has ls 6 [(0, .long x0), (2, .long x2)] := hl
  refine lv_lload_n hx hb d_I_unendingQuotient_JJ_0 rfl (lv_at hl 0 rfl) ?_
  refine pu_i (As := [.long x0]) (rest := []) ⟨hx, hb, hml, hown, hts⟩ (c_I_isNoNumber_J l _ x0) pu_pre (gw_call (k := 1) hts tw_89 tw_90 tw_5 tw_91 (by decide +kernel) rfl rfl ⟨Nat.le_of_ble_eq_true rfl, Nat.le_of_ble_eq_true rfl⟩) rfl hl.1 rfl (Nat.le_of_ble_eq_true rfl) ⟨Nat.zero_le _, Nat.zero_le _⟩ d_I_unendingQuotient_JJ_1 ?_
  refine lv_if_ne (tgt := 28) hx hb d_I_unendingQuotient_JJ_4 (by decide) (fun c1 => ?_) (fun c1 => ?_)
  · refine lv_ldc2 (v := (9221120237041090560 : Int64)) hx hb hown (hts _ (gm tw_92)) d_I_unendingQuotient_JJ_28 ?_
    exact pu_lret hx hb hr hlocks d_I_unendingQuotient_JJ_31 (by exact Eq.symm (if_neg c1))
  · refine lv_lload_n hx hb d_I_unendingQuotient_JJ_7 rfl (lv_at hl 1 rfl) ?_
    refine pu_i (As := [.long x2]) (rest := []) ⟨hx, hb, hml, hown, hts⟩ (c_I_isNoNumber_J l _ x2) pu_pre (gw_call (k := 1) hts tw_89 tw_90 tw_5 tw_91 (by decide +kernel) rfl rfl ⟨Nat.le_of_ble_eq_true rfl, Nat.le_of_ble_eq_true rfl⟩) rfl hl.1 rfl (Nat.le_of_ble_eq_true rfl) ⟨Nat.zero_le _, Nat.zero_le _⟩ d_I_unendingQuotient_JJ_8 ?_
    refine lv_if_ne (tgt := 28) hx hb d_I_unendingQuotient_JJ_11 (by decide) (fun c2 => ?_) (fun c2 => ?_)
    · refine lv_ldc2 (v := (9221120237041090560 : Int64)) hx hb hown (hts _ (gm tw_92)) d_I_unendingQuotient_JJ_28 ?_
      exact pu_lret hx hb hr hlocks d_I_unendingQuotient_JJ_31 (by exact Eq.symm (Eq.trans (if_pos c1) (if_neg c2)))
    · refine lv_lload_n hx hb d_I_unendingQuotient_JJ_14 rfl (lv_at hl 0 rfl) ?_
      refine pu_i (As := [.long x0]) (rest := []) ⟨hx, hb, hml, hown, hts⟩ (c_I_isInfinite_J l _ x0) pu_pre (gw_call (k := 1) hts tw_197 tw_198 tw_5 tw_199 (by decide +kernel) rfl rfl ⟨Nat.le_of_ble_eq_true rfl, Nat.le_of_ble_eq_true rfl⟩) rfl hl.1 rfl (Nat.le_of_ble_eq_true rfl) ⟨Nat.zero_le _, Nat.zero_le _⟩ d_I_unendingQuotient_JJ_15 ?_
      refine lv_if_eq (tgt := 32) hx hb d_I_unendingQuotient_JJ_18 (by decide) (fun c3 => ?_) (fun c3 => ?_)
      · exact k_I_unendingQuotient_JJ_32 C0 x0 x2 ls (lv_sub hl [0, 1] rfl) (by exact (Eq.trans (if_pos c1) (Eq.trans (if_pos c2) (if_pos c3))))
      · refine lv_lload_n hx hb d_I_unendingQuotient_JJ_21 rfl (lv_at hl 1 rfl) ?_
        refine pu_i (As := [.long x2]) (rest := []) ⟨hx, hb, hml, hown, hts⟩ (c_I_isInfinite_J l _ x2) pu_pre (gw_call (k := 1) hts tw_197 tw_198 tw_5 tw_199 (by decide +kernel) rfl rfl ⟨Nat.le_of_ble_eq_true rfl, Nat.le_of_ble_eq_true rfl⟩) rfl hl.1 rfl (Nat.le_of_ble_eq_true rfl) ⟨Nat.zero_le _, Nat.zero_le _⟩ d_I_unendingQuotient_JJ_22 ?_
        refine lv_if_eq (tgt := 32) hx hb d_I_unendingQuotient_JJ_25 (by decide) (fun c4 => ?_) (fun c4 => ?_)
        · exact k_I_unendingQuotient_JJ_32 C0 x0 x2 ls (lv_sub hl [0, 1] rfl) (by exact (Eq.trans (if_pos c1) (Eq.trans (if_pos c2) (Eq.trans (if_neg c3) (if_pos c4)))))
        · refine lv_ldc2 (v := (9221120237041090560 : Int64)) hx hb hown (hts _ (gm tw_92)) d_I_unendingQuotient_JJ_28 ?_
          exact pu_lret hx hb hr hlocks d_I_unendingQuotient_JJ_31 (by exact Eq.symm (Eq.trans (if_pos c1) (Eq.trans (if_pos c2) (Eq.trans (if_neg c3) (if_neg c4)))))
