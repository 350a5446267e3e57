-- ===== MotionLabModel.toDouble(J)J
abbrev y_M_toDouble_J : MethodName := ⟨"MotionLabModel", "toDouble", "(J)J"⟩
abbrev b_M_toDouble_J : ByteArray := prog_6_method_23_code
theorem d_M_toDouble_J_0 : decode b_M_toDouble_J 0 = .ok (.lload_n 0, 1) := by decide +kernel
theorem d_M_toDouble_J_1 : decode b_M_toDouble_J 1 = .ok (.iconst 1, 1) := by decide +kernel
theorem d_M_toDouble_J_2 : decode b_M_toDouble_J 2 = .ok (.iconst 0, 1) := by decide +kernel
theorem d_M_toDouble_J_3 : decode b_M_toDouble_J 3 = .ok (.invokestatic 99, 3) := by decide +kernel
theorem d_M_toDouble_J_6 : decode b_M_toDouble_J 6 = .ok (.lreturn, 1) := by decide +kernel
def f_M_toDouble_J (x0 : Int64) : Int64 :=
  f_M_changed_JII x0 (1 : Int32) (0 : Int32)
set_option maxHeartbeats 4000000 in
set_option maxRecDepth 100000 in
theorem c_M_toDouble_J (l : Launch) (h : Heap) (t0 t1 t2 : Nat) (x0 : Int64) : Met l y_M_toDouble_J (gw y_M_toDouble_J b_M_toDouble_J 2 (some .long)) { frames := 5, cells := 0, slots := 0, locals := 124 } (pr_Pc [.long x0] h t0 t1 t2) (pu_Ml (f_M_toDouble_J x0) h) 0 0 (fun _ => False) := by
  refine Met.ofW (cc := b_M_toDouble_J) (maxL := 2) (ret := (some .long)) (by decide) rfl ?_
  intro p e s m args below meth c s₁ B hml hv
  obtain ⟨rfl, hh, hRT⟩ := hv
  subst hh
  obtain ⟨hT0, hT1, hT2⟩ := id hRT
  have hx := B.exec
  have hb := B.bytes
  have hr := B.returns
  have hts := atoms_spec (ws := (gw y_M_toDouble_J b_M_toDouble_J 2 (some .long))) B.pre
  have hown : s.vm.findClass "MotionLabModel" = some m.cls := findClass_of_methodNamed B.named
  have hlocks := B.notSynchronized
  have C0 : pu_C p s m _ meth c b_M_toDouble_J 2 "MotionLabModel" (some .long) (gw y_M_toDouble_J b_M_toDouble_J 2 (some .long)) := ⟨hx, hb, hml, hown, hts, hr, hlocks⟩
  have hl := lv_entry ([.long x0]) (n := 2) (Nat.le_of_ble_eq_true rfl)
  rw [lg_entry_eq]
  generalize (lg_sl ([.long x0]) ++ List.replicate (2 - (lg_sl ([.long x0])).length) Slot.unset).toArray = ls at hl ⊢
  have hl : lv_has ls 2 [(0, .long x0)] := hl
  refine lv_lload_n hx hb d_M_toDouble_J_0 rfl (lv_at hl 0 rfl) ?_
  refine lv_iconst (v := 1) hx hb d_M_toDouble_J_1 (by decide) ?_
  refine lv_iconst (v := 0) hx hb d_M_toDouble_J_2 (by decide) ?_
  refine pu_l (As := [.long x0, .int (1 : Int32), .int (0 : Int32)]) (rest := []) ⟨hx, hb, hml, hown, hts⟩ (c_M_changed_JII l _ t0 t1 t2 x0 (1 : Int32) (0 : Int32) (in_of (by decide) (by decide)) (in_of (by decide) (by decide))) (pr_pre hRT) (gw_call (k := 3) hts tw_495 tw_496 tw_4 tw_497 (by decide +kernel) rfl rfl ⟨Nat.le_of_ble_eq_true rfl, Nat.le_of_ble_eq_true rfl⟩) rfl hl.1 rfl (Nat.le_of_ble_eq_true rfl) ⟨Nat.zero_le _, Nat.zero_le _⟩ d_M_toDouble_J_3 ?_
  exact pu_lret hx hb hr hlocks d_M_toDouble_J_6 (by exact Eq.symm rfl)
-- ===== MotionLabModel.isZero(JI)Z
abbrev y_M_isZero_JI : MethodName := ⟨"MotionLabModel", "isZero", "(JI)Z"⟩
abbrev b_M_isZero_JI : ByteArray := prog_6_method_8_code
theorem d_M_isZero_JI_0 : decode b_M_isZero_JI 0 = .ok (.lload_n 0, 1) := by decide +kernel
theorem d_M_isZero_JI_1 : decode b_M_isZero_JI 1 = .ok (.iload_n 2, 1) := by decide +kernel
theorem d_M_isZero_JI_2 : decode b_M_isZero_JI 2 = .ok (.invokestatic 15, 3) := by decide +kernel
theorem d_M_isZero_JI_5 : decode b_M_isZero_JI 5 = .ok (.lconst 0, 1) := by decide +kernel
theorem d_M_isZero_JI_6 : decode b_M_isZero_JI 6 = .ok (.lcmp, 1) := by decide +kernel
theorem d_M_isZero_JI_7 : decode b_M_isZero_JI 7 = .ok (.ifCond .ne 7, 3) := by decide +kernel
theorem d_M_isZero_JI_10 : decode b_M_isZero_JI 10 = .ok (.iconst 1, 1) := by decide +kernel
theorem d_M_isZero_JI_11 : decode b_M_isZero_JI 11 = .ok (.goto 4, 3) := by decide +kernel
theorem d_M_isZero_JI_14 : decode b_M_isZero_JI 14 = .ok (.iconst 0, 1) := by decide +kernel
theorem d_M_isZero_JI_15 : decode b_M_isZero_JI 15 = .ok (.ireturn, 1) := by decide +kernel
def f_M_isZero_JI (x0 : Int64) (x2 : Int32) : Int32 :=
  if (lg_cmp (f_M_size_JI x0 x2) (0 : Int64)) = 0 then
    (1 : Int32)
  else
    (0 : Int32)
set_option maxHeartbeats 4000000 in
set_option maxRecDepth 100000 in
theorem c_M_isZero_JI (l : Launch) (h : Heap) (x0 : Int64) (x2 : Int32) : Met l y_M_isZero_JI (gw y_M_isZero_JI b_M_isZero_JI 3 (some .boolean)) { frames := 2, cells := 0, slots := 0, locals := 42 } (pu_Pc [.long x0, .int x2] h) (pu_Mi (f_M_isZero_JI x0 x2) h) 0 0 (fun _ => False) := by
  refine Met.ofW (cc := b_M_isZero_JI) (maxL := 3) (ret := (some .boolean)) (by decide) rfl ?_
  intro p e s m args below meth c s₁ B hml hv
  obtain ⟨rfl, hh⟩ := hv
  subst hh
  have hx := B.exec
  have hb := B.bytes
  have hr := B.returns
  have hts := atoms_spec (ws := (gw y_M_isZero_JI b_M_isZero_JI 3 (some .boolean))) B.pre
  have hown : s.vm.findClass "MotionLabModel" = some m.cls := findClass_of_methodNamed B.named
  have hlocks := B.notSynchronized
  have C0 : pu_C p s m _ meth c b_M_isZero_JI 3 "MotionLabModel" (some .boolean) (gw y_M_isZero_JI b_M_isZero_JI 3 (some .boolean)) := ⟨hx, hb, hml, hown, hts, hr, hlocks⟩
  have hl := lv_entry ([.long x0, .int x2]) (n := 3) (Nat.le_of_ble_eq_true rfl)
  rw [lg_entry_eq]
  generalize (lg_sl ([.long x0, .int x2]) ++ List.replicate (3 - (lg_sl ([.long x0, .int x2])).length) Slot.unset).toArray = ls at hl ⊢
  have hl : lv_has ls 3 [(0, .long x0), (2, .int x2)] := hl
  refine lv_lload_n hx hb d_M_isZero_JI_0 rfl (lv_at hl 0 rfl) ?_
  refine lv_iload_n hx hb d_M_isZero_JI_1 rfl (lv_at hl 1 rfl) ?_
  refine pu_l (As := [.long x0, .int x2]) (rest := []) ⟨hx, hb, hml, hown, hts⟩ (c_M_size_JI l _ x0 x2) pu_pre (gw_call (k := 2) hts tw_501 tw_502 tw_4 tw_503 (by decide +kernel) rfl rfl ⟨Nat.le_of_ble_eq_true rfl, Nat.le_of_ble_eq_true rfl⟩) rfl hl.1 rfl (Nat.le_of_ble_eq_true rfl) ⟨Nat.zero_le _, Nat.zero_le _⟩ d_M_isZero_JI_2 ?_
  refine lv_lconst (v := (0 : Int64)) hx hb d_M_isZero_JI_5 (by decide) ?_
  refine W.lcmp hx hb d_M_isZero_JI_6 ?_
  refine lv_if_ne (tgt := 14) hx hb d_M_isZero_JI_7 (by decide) (fun c1 => ?_) (fun c1 => ?_)
  · refine lv_iconst (v := 0) hx hb d_M_isZero_JI_14 (by decide) ?_
    exact pu_zret hx hb hr rfl hlocks d_M_isZero_JI_15 (by exact Eq.symm (if_neg c1))
  · refine lv_iconst (v := 1) hx hb d_M_isZero_JI_10 (by decide) ?_
    refine lv_goto (tgt := 15) hx hb d_M_isZero_JI_11 (by decide) ?_
    exact pu_zret hx hb hr rfl hlocks d_M_isZero_JI_15 (by exact Eq.symm (if_pos c1))
-- ===== MotionLabModel.moved(JI)I
abbrev y_M_moved_JI : MethodName := ⟨"MotionLabModel", "moved", "(JI)I"⟩
abbrev b_M_moved_JI : ByteArray := prog_6_method_17_code
theorem d_M_moved_JI_0 : decode b_M_moved_JI 0 = .ok (.lload_n 0, 1) := by decide +kernel
theorem d_M_moved_JI_1 : decode b_M_moved_JI 1 = .ok (.invokestatic 40, 3) := by decide +kernel
theorem d_M_moved_JI_4 : decode b_M_moved_JI 4 = .ok (.bipush 64, 2) := by decide +kernel
theorem d_M_moved_JI_6 : decode b_M_moved_JI 6 = .ok (.isub, 1) := by decide +kernel
theorem d_M_moved_JI_7 : decode b_M_moved_JI 7 = .ok (.getstatic 23, 3) := by decide +kernel
theorem d_M_moved_JI_10 : decode b_M_moved_JI 10 = .ok (.iload_n 2, 1) := by decide +kernel
theorem d_M_moved_JI_11 : decode b_M_moved_JI 11 = .ok (.iaload, 1) := by decide +kernel
theorem d_M_moved_JI_12 : decode b_M_moved_JI 12 = .ok (.iadd, 1) := by decide +kernel
theorem d_M_moved_JI_13 : decode b_M_moved_JI 13 = .ok (.ireturn, 1) := by decide +kernel
def f_M_moved_JI (x0 : Int64) (x2 : Int32) : Int32 :=
  ((f_jL_numberOfLeadingZeros_J x0) - (64 : Int32)) + (tP_at x2)
set_option maxHeartbeats 4000000 in
set_option maxRecDepth 100000 in
theorem c_M_moved_JI (l : Launch) (h : Heap) (t0 t1 t2 : Nat) (x0 : Int64) (x2 : Int32) (hk_x2 : vp_in x2 2) : Met l y_M_moved_JI (gw y_M_moved_JI b_M_moved_JI 3 (some .int)) { frames := 2, cells := 0, slots := 0, locals := 43 } (pr_Pc [.long x0, .int x2] h t0 t1 t2) (pu_Mi (f_M_moved_JI x0 x2) h) 0 0 (fun _ => False) := by
  refine Met.ofW (cc := b_M_moved_JI) (maxL := 3) (ret := (some .int)) (by decide) rfl ?_
  intro p e s m args below meth c s₁ B hml hv
  obtain ⟨rfl, hh, hRT⟩ := hv
  subst hh
  obtain ⟨hT0, hT1, hT2⟩ := id hRT
  have hx := B.exec
  have hb := B.bytes
  have hr := B.returns
  have hts := atoms_spec (ws := (gw y_M_moved_JI b_M_moved_JI 3 (some .int))) B.pre
  have hown : s.vm.findClass "MotionLabModel" = some m.cls := findClass_of_methodNamed B.named
  have hlocks := B.notSynchronized
  have C0 : pu_C p s m _ meth c b_M_moved_JI 3 "MotionLabModel" (some .int) (gw y_M_moved_JI b_M_moved_JI 3 (some .int)) := ⟨hx, hb, hml, hown, hts, hr, hlocks⟩
  have hl := lv_entry ([.long x0, .int x2]) (n := 3) (Nat.le_of_ble_eq_true rfl)
  rw [lg_entry_eq]
  generalize (lg_sl ([.long x0, .int x2]) ++ List.replicate (3 - (lg_sl ([.long x0, .int x2])).length) Slot.unset).toArray = ls at hl ⊢
  have hl : lv_has ls 3 [(0, .long x0), (2, .int x2)] := hl
  refine lv_lload_n hx hb d_M_moved_JI_0 rfl (lv_at hl 0 rfl) ?_
  refine pu_i (As := [.long x0]) (rest := []) ⟨hx, hb, hml, hown, hts⟩ (c_jL_numberOfLeadingZeros_J l _ x0) pu_pre (gw_call (k := 1) hts tw_542 tw_109 tw_7 tw_110 (by decide +kernel) rfl rfl ⟨Nat.le_of_ble_eq_true rfl, Nat.le_of_ble_eq_true rfl⟩) rfl hl.1 rfl (Nat.le_of_ble_eq_true rfl) ⟨Nat.zero_le _, Nat.zero_le _⟩ d_M_moved_JI_1 ?_
  refine lv_bipush (v := (64 : Int32)) hx hb d_M_moved_JI_4 (by decide) ?_
  refine lv_isub hx hb d_M_moved_JI_6 ?_
  refine va_gets hx hb hT0.1 va_S.rf hown (hts _ (gm tw_528)) (fun _ h9 => h9) d_M_moved_JI_7 ?_
  refine lv_iload_n hx hb d_M_moved_JI_10 rfl (lv_at hl 1 rfl) ?_
  refine va_ti hx hb hT0.2 va_S.rf hk_x2 (v := .int (tP_at x2)) rfl d_M_moved_JI_11 ?_
  refine lv_iadd hx hb d_M_moved_JI_12 ?_
  exact pu_iret hx hb hr hlocks d_M_moved_JI_13 (by exact Eq.symm rfl)
-- ===== MotionLabModel.multiply(JJI)J
abbrev y_M_multiply_JJI : MethodName := ⟨"MotionLabModel", "multiply", "(JJI)J"⟩
abbrev b_M_multiply_JJI : ByteArray := prog_6_method_18_code
theorem d_M_multiply_JJI_0 : decode b_M_multiply_JJI 0 = .ok (.lload_n 0, 1) := by decide +kernel
theorem d_M_multiply_JJI_1 : decode b_M_multiply_JJI 1 = .ok (.iload 4, 2) := by decide +kernel
theorem d_M_multiply_JJI_3 : decode b_M_multiply_JJI 3 = .ok (.invokestatic 76, 3) := by decide +kernel
theorem d_M_multiply_JJI_6 : decode b_M_multiply_JJI 6 = .ok (.lload_n 2, 1) := by decide +kernel
theorem d_M_multiply_JJI_7 : decode b_M_multiply_JJI 7 = .ok (.iload 4, 2) := by decide +kernel
theorem d_M_multiply_JJI_9 : decode b_M_multiply_JJI 9 = .ok (.invokestatic 76, 3) := by decide +kernel
theorem d_M_multiply_JJI_12 : decode b_M_multiply_JJI 12 = .ok (.if_icmp .eq 7, 3) := by decide +kernel
theorem d_M_multiply_JJI_15 : decode b_M_multiply_JJI 15 = .ok (.iconst 1, 1) := by decide +kernel
theorem d_M_multiply_JJI_16 : decode b_M_multiply_JJI 16 = .ok (.goto 4, 3) := by decide +kernel
theorem d_M_multiply_JJI_19 : decode b_M_multiply_JJI 19 = .ok (.iconst 0, 1) := by decide +kernel
theorem d_M_multiply_JJI_20 : decode b_M_multiply_JJI 20 = .ok (.istore 5, 2) := by decide +kernel
theorem d_M_multiply_JJI_22 : decode b_M_multiply_JJI 22 = .ok (.lload_n 0, 1) := by decide +kernel
theorem d_M_multiply_JJI_23 : decode b_M_multiply_JJI 23 = .ok (.iload 4, 2) := by decide +kernel
theorem d_M_multiply_JJI_25 : decode b_M_multiply_JJI 25 = .ok (.invokestatic 56, 3) := by decide +kernel
theorem d_M_multiply_JJI_28 : decode b_M_multiply_JJI 28 = .ok (.ifCond .ne 12, 3) := by decide +kernel
theorem d_M_multiply_JJI_31 : decode b_M_multiply_JJI 31 = .ok (.lload_n 2, 1) := by decide +kernel
theorem d_M_multiply_JJI_32 : decode b_M_multiply_JJI 32 = .ok (.iload 4, 2) := by decide +kernel
theorem d_M_multiply_JJI_34 : decode b_M_multiply_JJI 34 = .ok (.invokestatic 56, 3) := by decide +kernel
theorem d_M_multiply_JJI_37 : decode b_M_multiply_JJI 37 = .ok (.ifCond .eq 9, 3) := by decide +kernel
theorem d_M_multiply_JJI_40 : decode b_M_multiply_JJI 40 = .ok (.iload 4, 2) := by decide +kernel
theorem d_M_multiply_JJI_42 : decode b_M_multiply_JJI 42 = .ok (.invokestatic 60, 3) := by decide +kernel
theorem d_M_multiply_JJI_45 : decode b_M_multiply_JJI 45 = .ok (.lreturn, 1) := by decide +kernel
theorem d_M_multiply_JJI_46 : decode b_M_multiply_JJI 46 = .ok (.lload_n 0, 1) := by decide +kernel
theorem d_M_multiply_JJI_47 : decode b_M_multiply_JJI 47 = .ok (.iload 4, 2) := by decide +kernel
theorem d_M_multiply_JJI_49 : decode b_M_multiply_JJI 49 = .ok (.invokestatic 63, 3) := by decide +kernel
theorem d_M_multiply_JJI_52 : decode b_M_multiply_JJI 52 = .ok (.ifCond .ne 12, 3) := by decide +kernel
theorem d_M_multiply_JJI_55 : decode b_M_multiply_JJI 55 = .ok (.lload_n 2, 1) := by decide +kernel
theorem d_M_multiply_JJI_56 : decode b_M_multiply_JJI 56 = .ok (.iload 4, 2) := by decide +kernel
theorem d_M_multiply_JJI_58 : decode b_M_multiply_JJI 58 = .ok (.invokestatic 63, 3) := by decide +kernel
theorem d_M_multiply_JJI_61 : decode b_M_multiply_JJI 61 = .ok (.ifCond .eq 42, 3) := by decide +kernel
theorem d_M_multiply_JJI_64 : decode b_M_multiply_JJI 64 = .ok (.lload_n 0, 1) := by decide +kernel
theorem d_M_multiply_JJI_65 : decode b_M_multiply_JJI 65 = .ok (.iload 4, 2) := by decide +kernel
theorem d_M_multiply_JJI_67 : decode b_M_multiply_JJI 67 = .ok (.invokestatic 66, 3) := by decide +kernel
theorem d_M_multiply_JJI_70 : decode b_M_multiply_JJI 70 = .ok (.ifCond .ne 12, 3) := by decide +kernel
theorem d_M_multiply_JJI_73 : decode b_M_multiply_JJI 73 = .ok (.lload_n 2, 1) := by decide +kernel
theorem d_M_multiply_JJI_74 : decode b_M_multiply_JJI 74 = .ok (.iload 4, 2) := by decide +kernel
theorem d_M_multiply_JJI_76 : decode b_M_multiply_JJI 76 = .ok (.invokestatic 66, 3) := by decide +kernel
theorem d_M_multiply_JJI_79 : decode b_M_multiply_JJI 79 = .ok (.ifCond .eq 11, 3) := by decide +kernel
theorem d_M_multiply_JJI_82 : decode b_M_multiply_JJI 82 = .ok (.iload 4, 2) := by decide +kernel
theorem d_M_multiply_JJI_84 : decode b_M_multiply_JJI 84 = .ok (.invokestatic 60, 3) := by decide +kernel
theorem d_M_multiply_JJI_87 : decode b_M_multiply_JJI 87 = .ok (.goto 15, 3) := by decide +kernel
theorem d_M_multiply_JJI_90 : decode b_M_multiply_JJI 90 = .ok (.iload 4, 2) := by decide +kernel
theorem d_M_multiply_JJI_92 : decode b_M_multiply_JJI 92 = .ok (.invokestatic 19, 3) := by decide +kernel
theorem d_M_multiply_JJI_95 : decode b_M_multiply_JJI 95 = .ok (.iload 5, 2) := by decide +kernel
theorem d_M_multiply_JJI_97 : decode b_M_multiply_JJI 97 = .ok (.iload 4, 2) := by decide +kernel
theorem d_M_multiply_JJI_99 : decode b_M_multiply_JJI 99 = .ok (.invokestatic 36, 3) := by decide +kernel
theorem d_M_multiply_JJI_102 : decode b_M_multiply_JJI 102 = .ok (.lreturn, 1) := by decide +kernel
theorem d_M_multiply_JJI_103 : decode b_M_multiply_JJI 103 = .ok (.lload_n 0, 1) := by decide +kernel
theorem d_M_multiply_JJI_104 : decode b_M_multiply_JJI 104 = .ok (.iload 4, 2) := by decide +kernel
theorem d_M_multiply_JJI_106 : decode b_M_multiply_JJI 106 = .ok (.invokestatic 66, 3) := by decide +kernel
theorem d_M_multiply_JJI_109 : decode b_M_multiply_JJI 109 = .ok (.ifCond .ne 12, 3) := by decide +kernel
theorem d_M_multiply_JJI_112 : decode b_M_multiply_JJI 112 = .ok (.lload_n 2, 1) := by decide +kernel
theorem d_M_multiply_JJI_113 : decode b_M_multiply_JJI 113 = .ok (.iload 4, 2) := by decide +kernel
theorem d_M_multiply_JJI_115 : decode b_M_multiply_JJI 115 = .ok (.invokestatic 66, 3) := by decide +kernel
theorem d_M_multiply_JJI_118 : decode b_M_multiply_JJI 118 = .ok (.ifCond .eq 12, 3) := by decide +kernel
theorem d_M_multiply_JJI_121 : decode b_M_multiply_JJI 121 = .ok (.lconst 0, 1) := by decide +kernel
theorem d_M_multiply_JJI_122 : decode b_M_multiply_JJI 122 = .ok (.iload 5, 2) := by decide +kernel
theorem d_M_multiply_JJI_124 : decode b_M_multiply_JJI 124 = .ok (.iload 4, 2) := by decide +kernel
theorem d_M_multiply_JJI_126 : decode b_M_multiply_JJI 126 = .ok (.invokestatic 36, 3) := by decide +kernel
theorem d_M_multiply_JJI_129 : decode b_M_multiply_JJI 129 = .ok (.lreturn, 1) := by decide +kernel
theorem d_M_multiply_JJI_130 : decode b_M_multiply_JJI 130 = .ok (.lload_n 0, 1) := by decide +kernel
theorem d_M_multiply_JJI_131 : decode b_M_multiply_JJI 131 = .ok (.iload 4, 2) := by decide +kernel
theorem d_M_multiply_JJI_133 : decode b_M_multiply_JJI 133 = .ok (.invokestatic 73, 3) := by decide +kernel
theorem d_M_multiply_JJI_136 : decode b_M_multiply_JJI 136 = .ok (.lstore 6, 2) := by decide +kernel
theorem d_M_multiply_JJI_138 : decode b_M_multiply_JJI 138 = .ok (.lload_n 2, 1) := by decide +kernel
theorem d_M_multiply_JJI_139 : decode b_M_multiply_JJI 139 = .ok (.iload 4, 2) := by decide +kernel
theorem d_M_multiply_JJI_141 : decode b_M_multiply_JJI 141 = .ok (.invokestatic 73, 3) := by decide +kernel
theorem d_M_multiply_JJI_144 : decode b_M_multiply_JJI 144 = .ok (.lstore 8, 2) := by decide +kernel
theorem d_M_multiply_JJI_146 : decode b_M_multiply_JJI 146 = .ok (.lload_n 0, 1) := by decide +kernel
theorem d_M_multiply_JJI_147 : decode b_M_multiply_JJI 147 = .ok (.iload 4, 2) := by decide +kernel
theorem d_M_multiply_JJI_149 : decode b_M_multiply_JJI 149 = .ok (.invokestatic 69, 3) := by decide +kernel
theorem d_M_multiply_JJI_152 : decode b_M_multiply_JJI 152 = .ok (.lload_n 2, 1) := by decide +kernel
theorem d_M_multiply_JJI_153 : decode b_M_multiply_JJI 153 = .ok (.iload 4, 2) := by decide +kernel
theorem d_M_multiply_JJI_155 : decode b_M_multiply_JJI 155 = .ok (.invokestatic 69, 3) := by decide +kernel
theorem d_M_multiply_JJI_158 : decode b_M_multiply_JJI 158 = .ok (.iadd, 1) := by decide +kernel
theorem d_M_multiply_JJI_159 : decode b_M_multiply_JJI 159 = .ok (.lload 6, 2) := by decide +kernel
theorem d_M_multiply_JJI_161 : decode b_M_multiply_JJI 161 = .ok (.iload 4, 2) := by decide +kernel
theorem d_M_multiply_JJI_163 : decode b_M_multiply_JJI 163 = .ok (.invokestatic 86, 3) := by decide +kernel
theorem d_M_multiply_JJI_166 : decode b_M_multiply_JJI 166 = .ok (.isub, 1) := by decide +kernel
theorem d_M_multiply_JJI_167 : decode b_M_multiply_JJI 167 = .ok (.lload 8, 2) := by decide +kernel
theorem d_M_multiply_JJI_169 : decode b_M_multiply_JJI 169 = .ok (.iload 4, 2) := by decide +kernel
theorem d_M_multiply_JJI_171 : decode b_M_multiply_JJI 171 = .ok (.invokestatic 86, 3) := by decide +kernel
theorem d_M_multiply_JJI_174 : decode b_M_multiply_JJI 174 = .ok (.isub, 1) := by decide +kernel
theorem d_M_multiply_JJI_175 : decode b_M_multiply_JJI 175 = .ok (.istore 10, 2) := by decide +kernel
theorem d_M_multiply_JJI_177 : decode b_M_multiply_JJI 177 = .ok (.lload 6, 2) := by decide +kernel
theorem d_M_multiply_JJI_179 : decode b_M_multiply_JJI 179 = .ok (.lload 6, 2) := by decide +kernel
theorem d_M_multiply_JJI_181 : decode b_M_multiply_JJI 181 = .ok (.iload 4, 2) := by decide +kernel
theorem d_M_multiply_JJI_183 : decode b_M_multiply_JJI 183 = .ok (.invokestatic 86, 3) := by decide +kernel
theorem d_M_multiply_JJI_186 : decode b_M_multiply_JJI 186 = .ok (.lshl, 1) := by decide +kernel
theorem d_M_multiply_JJI_187 : decode b_M_multiply_JJI 187 = .ok (.lstore 6, 2) := by decide +kernel
theorem d_M_multiply_JJI_189 : decode b_M_multiply_JJI 189 = .ok (.lload 8, 2) := by decide +kernel
theorem d_M_multiply_JJI_191 : decode b_M_multiply_JJI 191 = .ok (.lload 8, 2) := by decide +kernel
theorem d_M_multiply_JJI_193 : decode b_M_multiply_JJI 193 = .ok (.iload 4, 2) := by decide +kernel
theorem d_M_multiply_JJI_195 : decode b_M_multiply_JJI 195 = .ok (.invokestatic 86, 3) := by decide +kernel
theorem d_M_multiply_JJI_198 : decode b_M_multiply_JJI 198 = .ok (.lshl, 1) := by decide +kernel
theorem d_M_multiply_JJI_199 : decode b_M_multiply_JJI 199 = .ok (.lstore 8, 2) := by decide +kernel
theorem d_M_multiply_JJI_201 : decode b_M_multiply_JJI 201 = .ok (.iload 4, 2) := by decide +kernel
theorem d_M_multiply_JJI_203 : decode b_M_multiply_JJI 203 = .ok (.iconst 1, 1) := by decide +kernel
theorem d_M_multiply_JJI_204 : decode b_M_multiply_JJI 204 = .ok (.if_icmp .ne 18, 3) := by decide +kernel
theorem d_M_multiply_JJI_207 : decode b_M_multiply_JJI 207 = .ok (.iload 5, 2) := by decide +kernel
theorem d_M_multiply_JJI_209 : decode b_M_multiply_JJI 209 = .ok (.lload 6, 2) := by decide +kernel
theorem d_M_multiply_JJI_211 : decode b_M_multiply_JJI 211 = .ok (.lload 8, 2) := by decide +kernel
theorem d_M_multiply_JJI_213 : decode b_M_multiply_JJI 213 = .ok (.lmul, 1) := by decide +kernel
theorem d_M_multiply_JJI_214 : decode b_M_multiply_JJI 214 = .ok (.iload 10, 2) := by decide +kernel
theorem d_M_multiply_JJI_216 : decode b_M_multiply_JJI 216 = .ok (.iload 4, 2) := by decide +kernel
theorem d_M_multiply_JJI_218 : decode b_M_multiply_JJI 218 = .ok (.invokestatic 89, 3) := by decide +kernel
theorem d_M_multiply_JJI_221 : decode b_M_multiply_JJI 221 = .ok (.lreturn, 1) := by decide +kernel
theorem d_M_multiply_JJI_222 : decode b_M_multiply_JJI 222 = .ok (.lload 6, 2) := by decide +kernel
theorem d_M_multiply_JJI_224 : decode b_M_multiply_JJI 224 = .ok (.bipush 27, 2) := by decide +kernel
theorem d_M_multiply_JJI_226 : decode b_M_multiply_JJI 226 = .ok (.lshr, 1) := by decide +kernel
theorem d_M_multiply_JJI_227 : decode b_M_multiply_JJI 227 = .ok (.lstore 11, 2) := by decide +kernel
theorem d_M_multiply_JJI_229 : decode b_M_multiply_JJI 229 = .ok (.lload 6, 2) := by decide +kernel
theorem d_M_multiply_JJI_231 : decode b_M_multiply_JJI 231 = .ok (.ldc2_w 93, 3) := by decide +kernel
theorem d_M_multiply_JJI_234 : decode b_M_multiply_JJI 234 = .ok (.land, 1) := by decide +kernel
theorem d_M_multiply_JJI_235 : decode b_M_multiply_JJI 235 = .ok (.lstore 13, 2) := by decide +kernel
theorem d_M_multiply_JJI_237 : decode b_M_multiply_JJI 237 = .ok (.lload 8, 2) := by decide +kernel
theorem d_M_multiply_JJI_239 : decode b_M_multiply_JJI 239 = .ok (.bipush 27, 2) := by decide +kernel
theorem d_M_multiply_JJI_241 : decode b_M_multiply_JJI 241 = .ok (.lshr, 1) := by decide +kernel
theorem d_M_multiply_JJI_242 : decode b_M_multiply_JJI 242 = .ok (.lstore 15, 2) := by decide +kernel
theorem d_M_multiply_JJI_244 : decode b_M_multiply_JJI 244 = .ok (.lload 8, 2) := by decide +kernel
theorem d_M_multiply_JJI_246 : decode b_M_multiply_JJI 246 = .ok (.ldc2_w 93, 3) := by decide +kernel
theorem d_M_multiply_JJI_249 : decode b_M_multiply_JJI 249 = .ok (.land, 1) := by decide +kernel
theorem d_M_multiply_JJI_250 : decode b_M_multiply_JJI 250 = .ok (.lstore 17, 2) := by decide +kernel
theorem d_M_multiply_JJI_252 : decode b_M_multiply_JJI 252 = .ok (.lload 11, 2) := by decide +kernel
theorem d_M_multiply_JJI_254 : decode b_M_multiply_JJI 254 = .ok (.lload 17, 2) := by decide +kernel
theorem d_M_multiply_JJI_256 : decode b_M_multiply_JJI 256 = .ok (.lmul, 1) := by decide +kernel
theorem d_M_multiply_JJI_257 : decode b_M_multiply_JJI 257 = .ok (.lload 13, 2) := by decide +kernel
theorem d_M_multiply_JJI_259 : decode b_M_multiply_JJI 259 = .ok (.lload 15, 2) := by decide +kernel
theorem d_M_multiply_JJI_261 : decode b_M_multiply_JJI 261 = .ok (.lmul, 1) := by decide +kernel
theorem d_M_multiply_JJI_262 : decode b_M_multiply_JJI 262 = .ok (.ladd, 1) := by decide +kernel
theorem d_M_multiply_JJI_263 : decode b_M_multiply_JJI 263 = .ok (.lstore 19, 2) := by decide +kernel
theorem d_M_multiply_JJI_265 : decode b_M_multiply_JJI 265 = .ok (.lload 13, 2) := by decide +kernel
theorem d_M_multiply_JJI_267 : decode b_M_multiply_JJI 267 = .ok (.lload 17, 2) := by decide +kernel
theorem d_M_multiply_JJI_269 : decode b_M_multiply_JJI 269 = .ok (.lmul, 1) := by decide +kernel
theorem d_M_multiply_JJI_270 : decode b_M_multiply_JJI 270 = .ok (.lload 19, 2) := by decide +kernel
theorem d_M_multiply_JJI_272 : decode b_M_multiply_JJI 272 = .ok (.ldc2_w 93, 3) := by decide +kernel
theorem d_M_multiply_JJI_275 : decode b_M_multiply_JJI 275 = .ok (.land, 1) := by decide +kernel
theorem d_M_multiply_JJI_276 : decode b_M_multiply_JJI 276 = .ok (.bipush 27, 2) := by decide +kernel
theorem d_M_multiply_JJI_278 : decode b_M_multiply_JJI 278 = .ok (.lshl, 1) := by decide +kernel
theorem d_M_multiply_JJI_279 : decode b_M_multiply_JJI 279 = .ok (.ladd, 1) := by decide +kernel
theorem d_M_multiply_JJI_280 : decode b_M_multiply_JJI 280 = .ok (.lstore 21, 2) := by decide +kernel
theorem d_M_multiply_JJI_282 : decode b_M_multiply_JJI 282 = .ok (.lload 11, 2) := by decide +kernel
theorem d_M_multiply_JJI_284 : decode b_M_multiply_JJI 284 = .ok (.lload 15, 2) := by decide +kernel
theorem d_M_multiply_JJI_286 : decode b_M_multiply_JJI 286 = .ok (.lmul, 1) := by decide +kernel
theorem d_M_multiply_JJI_287 : decode b_M_multiply_JJI 287 = .ok (.lload 19, 2) := by decide +kernel
theorem d_M_multiply_JJI_289 : decode b_M_multiply_JJI 289 = .ok (.bipush 27, 2) := by decide +kernel
theorem d_M_multiply_JJI_291 : decode b_M_multiply_JJI 291 = .ok (.lshr, 1) := by decide +kernel
theorem d_M_multiply_JJI_292 : decode b_M_multiply_JJI 292 = .ok (.ladd, 1) := by decide +kernel
theorem d_M_multiply_JJI_293 : decode b_M_multiply_JJI 293 = .ok (.lload 21, 2) := by decide +kernel
theorem d_M_multiply_JJI_295 : decode b_M_multiply_JJI 295 = .ok (.bipush 54, 2) := by decide +kernel
theorem d_M_multiply_JJI_297 : decode b_M_multiply_JJI 297 = .ok (.lshr, 1) := by decide +kernel
theorem d_M_multiply_JJI_298 : decode b_M_multiply_JJI 298 = .ok (.ladd, 1) := by decide +kernel
theorem d_M_multiply_JJI_299 : decode b_M_multiply_JJI 299 = .ok (.lstore 23, 2) := by decide +kernel
theorem d_M_multiply_JJI_301 : decode b_M_multiply_JJI 301 = .ok (.lload 21, 2) := by decide +kernel
theorem d_M_multiply_JJI_303 : decode b_M_multiply_JJI 303 = .ok (.ldc2_w 95, 3) := by decide +kernel
theorem d_M_multiply_JJI_306 : decode b_M_multiply_JJI 306 = .ok (.land, 1) := by decide +kernel
theorem d_M_multiply_JJI_307 : decode b_M_multiply_JJI 307 = .ok (.lstore 21, 2) := by decide +kernel
theorem d_M_multiply_JJI_309 : decode b_M_multiply_JJI 309 = .ok (.iload 5, 2) := by decide +kernel
theorem d_M_multiply_JJI_311 : decode b_M_multiply_JJI 311 = .ok (.lload 23, 2) := by decide +kernel
theorem d_M_multiply_JJI_313 : decode b_M_multiply_JJI 313 = .ok (.bipush 8, 2) := by decide +kernel
theorem d_M_multiply_JJI_315 : decode b_M_multiply_JJI 315 = .ok (.lshl, 1) := by decide +kernel
theorem d_M_multiply_JJI_316 : decode b_M_multiply_JJI 316 = .ok (.lload 21, 2) := by decide +kernel
theorem d_M_multiply_JJI_318 : decode b_M_multiply_JJI 318 = .ok (.bipush 46, 2) := by decide +kernel
theorem d_M_multiply_JJI_320 : decode b_M_multiply_JJI 320 = .ok (.lshr, 1) := by decide +kernel
theorem d_M_multiply_JJI_321 : decode b_M_multiply_JJI 321 = .ok (.lor, 1) := by decide +kernel
theorem d_M_multiply_JJI_322 : decode b_M_multiply_JJI 322 = .ok (.iload 10, 2) := by decide +kernel
theorem d_M_multiply_JJI_324 : decode b_M_multiply_JJI 324 = .ok (.bipush 46, 2) := by decide +kernel
theorem d_M_multiply_JJI_326 : decode b_M_multiply_JJI 326 = .ok (.iadd, 1) := by decide +kernel
theorem d_M_multiply_JJI_327 : decode b_M_multiply_JJI 327 = .ok (.lload 21, 2) := by decide +kernel
theorem d_M_multiply_JJI_329 : decode b_M_multiply_JJI 329 = .ok (.ldc2_w 97, 3) := by decide +kernel
theorem d_M_multiply_JJI_332 : decode b_M_multiply_JJI 332 = .ok (.land, 1) := by decide +kernel
theorem d_M_multiply_JJI_333 : decode b_M_multiply_JJI 333 = .ok (.lconst 0, 1) := by decide +kernel
theorem d_M_multiply_JJI_334 : decode b_M_multiply_JJI 334 = .ok (.lcmp, 1) := by decide +kernel
theorem d_M_multiply_JJI_335 : decode b_M_multiply_JJI 335 = .ok (.ifCond .eq 7, 3) := by decide +kernel
theorem d_M_multiply_JJI_338 : decode b_M_multiply_JJI 338 = .ok (.iconst 1, 1) := by decide +kernel
theorem d_M_multiply_JJI_339 : decode b_M_multiply_JJI 339 = .ok (.goto 4, 3) := by decide +kernel
theorem d_M_multiply_JJI_342 : decode b_M_multiply_JJI 342 = .ok (.iconst 0, 1) := by decide +kernel
theorem d_M_multiply_JJI_343 : decode b_M_multiply_JJI 343 = .ok (.iload 4, 2) := by decide +kernel
theorem d_M_multiply_JJI_345 : decode b_M_multiply_JJI 345 = .ok (.invokestatic 52, 3) := by decide +kernel
theorem d_M_multiply_JJI_348 : decode b_M_multiply_JJI 348 = .ok (.lreturn, 1) := by decide +kernel
def f_M_multiply_JJI_64 (x0 : Int64) (x2 : Int64) (x4 : Int32) (x5 : Int32) : Int64 :=
  if (f_M_isZero_JI x0 x4) = 0 then
    if (f_M_isZero_JI x2 x4) = 0 then
      f_M_signed_JZI (f_M_infinite_I x4) x5 x4
    else
      f_M_none_I x4
  else
    f_M_none_I x4
set_option maxHeartbeats 4000000 in
set_option maxRecDepth 100000 in
theorem k_M_multiply_JJI_64 {p : Program} {l : Launch} {e : Env} {s : State} {m : MethodId} {args : Array Value} {below : List Frame} {meth : Method} {c : Code} (C0 : pu_C p s m args meth c b_M_multiply_JJI 25 "MotionLabModel" (some .long) (gw y_M_multiply_JJI b_M_multiply_JJI 25 (some .long))) {t0 t1 t2 : Nat} (hRT : RTH t0 t1 t2 s s.heap) (x0 : Int64) (x2 : Int64) (x4 : Int32) (x5 : Int32) (hk_x4 : vp_in x4 2) (ls : Array Slot) (hl : lv_has ls 25 [(0, .long x0), (2, .long x2), (4, .int x4), (5, .int x5)]) {w : Int64} (hw : w = f_M_multiply_JJI_64 x0 x2 x4 x5) : W p l e (headSpec (gw y_M_multiply_JJI b_M_multiply_JJI 25 (some .long)) ({ frames := 4, cells := 0, slots := 0, locals := 101 } : Room)).room s m args below meth c s.heap [] 0 0 (pu_Ql w below args s) (F0 m 64 ls []) := by
  obtain ⟨hx, hb, hml, hown, hts, hr, hlocks⟩ := id C0
  obtain ⟨hT0, hT1, hT2⟩ := id hRT
  refine lv_lload_n hx hb d_M_multiply_JJI_64 rfl (lv_at hl 0 rfl) ?_
  refine lv_iload hx hb d_M_multiply_JJI_65 (lv_at hl 2 rfl) ?_
  refine pu_i (As := [.long x0, .int x4]) (rest := []) ⟨hx, hb, hml, hown, hts⟩ (c_M_isZero_JI l _ x0 x4) pu_pre (gw_call (k := 2) hts tw_579 tw_580 tw_4 tw_581 (by decide +kernel) rfl rfl ⟨Nat.le_of_ble_eq_true rfl, Nat.le_of_ble_eq_true rfl⟩) rfl hl.1 rfl (Nat.le_of_ble_eq_true rfl) ⟨Nat.zero_le _, Nat.zero_le _⟩ d_M_multiply_JJI_67 ?_
  refine lv_if_ne (tgt := 82) hx hb d_M_multiply_JJI_70 (by decide) (fun c1 => ?_) (fun c1 => ?_)
  · refine lv_iload hx hb d_M_multiply_JJI_82 (lv_at hl 2 rfl) ?_
    refine pu_l (As := [.int x4]) (rest := []) ⟨hx, hb, hml, hown, hts⟩ (c_M_none_I l _ x4) pu_pre (gw_call (k := 1) hts tw_511 tw_512 tw_4 tw_513 (by decide +kernel) rfl rfl ⟨Nat.le_of_ble_eq_true rfl, Nat.le_of_ble_eq_true rfl⟩) rfl hl.1 rfl (Nat.le_of_ble_eq_true rfl) ⟨Nat.zero_le _, Nat.zero_le _⟩ d_M_multiply_JJI_84 ?_
    refine lv_goto (tgt := 102) hx hb d_M_multiply_JJI_87 (by decide) ?_
    exact pu_lret hx hb hr hlocks d_M_multiply_JJI_102 (by exact Eq.symm (hw.trans (if_neg c1)))
  · refine lv_lload_n hx hb d_M_multiply_JJI_73 rfl (lv_at hl 1 rfl) ?_
    refine lv_iload hx hb d_M_multiply_JJI_74 (lv_at hl 2 rfl) ?_
    refine pu_i (As := [.long x2, .int x4]) (rest := []) ⟨hx, hb, hml, hown, hts⟩ (c_M_isZero_JI l _ x2 x4) pu_pre (gw_call (k := 2) hts tw_579 tw_580 tw_4 tw_581 (by decide +kernel) rfl rfl ⟨Nat.le_of_ble_eq_true rfl, Nat.le_of_ble_eq_true rfl⟩) rfl hl.1 rfl (Nat.le_of_ble_eq_true rfl) ⟨Nat.zero_le _, Nat.zero_le _⟩ d_M_multiply_JJI_76 ?_
    refine lv_if_eq (tgt := 90) hx hb d_M_multiply_JJI_79 (by decide) (fun c2 => ?_) (fun c2 => ?_)
    · refine lv_iload hx hb d_M_multiply_JJI_90 (lv_at hl 2 rfl) ?_
      refine pu_l (As := [.int x4]) (rest := []) ⟨hx, hb, hml, hown, hts⟩ (c_M_infinite_I l _ x4) pu_pre (gw_call (k := 1) hts tw_507 tw_508 tw_4 tw_509 (by decide +kernel) rfl rfl ⟨Nat.le_of_ble_eq_true rfl, Nat.le_of_ble_eq_true rfl⟩) rfl hl.1 rfl (Nat.le_of_ble_eq_true rfl) ⟨Nat.zero_le _, Nat.zero_le _⟩ d_M_multiply_JJI_92 ?_
      refine lv_iload hx hb d_M_multiply_JJI_95 (lv_at hl 3 rfl) ?_
      refine lv_iload hx hb d_M_multiply_JJI_97 (lv_at hl 2 rfl) ?_
      refine pu_l (As := [.long (f_M_infinite_I x4), .int x5, .int x4]) (rest := []) ⟨hx, hb, hml, hown, hts⟩ (c_M_signed_JZI l _ (f_M_infinite_I x4) x5 x4) pu_pre (gw_call (k := 3) hts tw_522 tw_523 tw_4 tw_524 (by decide +kernel) rfl rfl ⟨Nat.le_of_ble_eq_true rfl, Nat.le_of_ble_eq_true rfl⟩) rfl hl.1 rfl (Nat.le_of_ble_eq_true rfl) ⟨Nat.zero_le _, Nat.zero_le _⟩ d_M_multiply_JJI_99 ?_
      exact pu_lret hx hb hr hlocks d_M_multiply_JJI_102 (by exact Eq.symm (hw.trans (Eq.trans (if_pos c1) (if_pos c2))))
    · refine lv_iload hx hb d_M_multiply_JJI_82 (lv_at hl 2 rfl) ?_
      refine pu_l (As := [.int x4]) (rest := []) ⟨hx, hb, hml, hown, hts⟩ (c_M_none_I l _ x4) pu_pre (gw_call (k := 1) hts tw_511 tw_512 tw_4 tw_513 (by decide +kernel) rfl rfl ⟨Nat.le_of_ble_eq_true rfl, Nat.le_of_ble_eq_true rfl⟩) rfl hl.1 rfl (Nat.le_of_ble_eq_true rfl) ⟨Nat.zero_le _, Nat.zero_le _⟩ d_M_multiply_JJI_84 ?_
      refine lv_goto (tgt := 102) hx hb d_M_multiply_JJI_87 (by decide) ?_
      exact pu_lret hx hb hr hlocks d_M_multiply_JJI_102 (by exact Eq.symm (hw.trans (Eq.trans (if_pos c1) (if_neg c2))))
def f_M_multiply_JJI_20 (x0 : Int64) (x2 : Int64) (x4 : Int32) (s0 : Int32) : Int64 :=
  if (f_M_isNone_JI x0 x4) = 0 then
    if (f_M_isNone_JI x2 x4) = 0 then
      if (f_M_isInfinite_JI x0 x4) = 0 then
        if (f_M_isInfinite_JI x2 x4) = 0 then
          if (f_M_isZero_JI x0 x4) = 0 then
            if (f_M_isZero_JI x2 x4) = 0 then
              let v7 : Int64 := f_M_whole_JI x0 x4
              let v8 : Int64 := f_M_whole_JI x2 x4
              let v9 : Int32 := (((f_M_power_JI x0 x4) + (f_M_power_JI x2 x4)) - (f_M_moved_JI v7 x4)) - (f_M_moved_JI v8 x4)
              let v10 : Int64 := j_shl v7 (f_M_moved_JI v7 x4)
              let v11 : Int64 := j_shl v8 (f_M_moved_JI v8 x4)
              if x4 = (1 : Int32) then
                f_M_exact_ZJII s0 (v10 * v11) v9 x4
              else
                let v13 : Int64 := j_shr v10 (27 : Int32)
                let v14 : Int64 := v10 &&& (134217727 : Int64)
                let v15 : Int64 := j_shr v11 (27 : Int32)
                let v16 : Int64 := v11 &&& (134217727 : Int64)
                let v17 : Int64 := (v13 * v16) + (v14 * v15)
                let v18 : Int64 := (v14 * v16) + (j_shl (v17 &&& (134217727 : Int64)) (27 : Int32))
                let v19 : Int64 := ((v13 * v15) + (j_shr v17 (27 : Int32))) + (j_shr v18 (54 : Int32))
                let v20 : Int64 := v18 &&& (18014398509481983 : Int64)
                if (lg_cmp (v20 &&& (70368744177663 : Int64)) (0 : Int64)) = 0 then
                  f_M_rounded_ZJIZI s0 ((j_shl v19 (8 : Int32)) ||| (j_shr v20 (46 : Int32))) (v9 + (46 : Int32)) (0 : Int32) x4
                else
                  f_M_rounded_ZJIZI s0 ((j_shl v19 (8 : Int32)) ||| (j_shr v20 (46 : Int32))) (v9 + (46 : Int32)) (1 : Int32) x4
            else
              f_M_signed_JZI (0 : Int64) s0 x4
          else
            f_M_signed_JZI (0 : Int64) s0 x4
        else
          f_M_multiply_JJI_64 x0 x2 x4 s0
      else
        f_M_multiply_JJI_64 x0 x2 x4 s0
    else
      f_M_none_I x4
  else
    f_M_none_I x4
set_option maxHeartbeats 4000000 in
set_option maxRecDepth 100000 in
theorem k_M_multiply_JJI_20 {p : Program} {l : Launch} {e : Env} {s : State} {m : MethodId} {args : Array Value} {below : List Frame} {meth : Method} {c : Code} (C0 : pu_C p s m args meth c b_M_multiply_JJI 25 "MotionLabModel" (some .long) (gw y_M_multiply_JJI b_M_multiply_JJI 25 (some .long))) {t0 t1 t2 : Nat} (hRT : RTH t0 t1 t2 s s.heap) (x0 : Int64) (x2 : Int64) (x4 : Int32) (s0 : Int32) (hk_x4 : vp_in x4 2) (ls : Array Slot) (hl : lv_has ls 25 [(0, .long x0), (2, .long x2), (4, .int x4)]) {w : Int64} (hw : w = f_M_multiply_JJI_20 x0 x2 x4 s0) : W p l e (headSpec (gw y_M_multiply_JJI b_M_multiply_JJI 25 (some .long)) ({ frames := 4, cells := 0, slots := 0, locals := 101 } : Room)).room s m args below meth c s.heap [] 0 0 (pu_Ql w below args s) (F0 m 20 ls [.int s0]) := by
  obtain ⟨hx, hb, hml, hown, hts, hr, hlocks⟩ := id C0
  obtain ⟨hT0, hT1, hT2⟩ := id hRT
  refine lv_istore (lv' := [(5, .int s0), (0, .long x0), (2, .long x2), (4, .int x4)]) hx hb d_M_multiply_JJI_20 hl (by decide) rfl (fun ls hl => ?_)
  refine lv_lload_n hx hb d_M_multiply_JJI_22 rfl (lv_at hl 1 rfl) ?_
  refine lv_iload hx hb d_M_multiply_JJI_23 (lv_at hl 3 rfl) ?_
  refine pu_i (As := [.long x0, .int x4]) (rest := []) ⟨hx, hb, hml, hown, hts⟩ (c_M_isNone_JI l _ x0 x4) pu_pre (gw_call (k := 2) hts tw_498 tw_499 tw_4 tw_500 (by decide +kernel) rfl rfl ⟨Nat.le_of_ble_eq_true rfl, Nat.le_of_ble_eq_true rfl⟩) rfl hl.1 rfl (Nat.le_of_ble_eq_true rfl) ⟨Nat.zero_le _, Nat.zero_le _⟩ d_M_multiply_JJI_25 ?_
  refine lv_if_ne (tgt := 40) hx hb d_M_multiply_JJI_28 (by decide) (fun c1 => ?_) (fun c1 => ?_)
  · refine lv_iload hx hb d_M_multiply_JJI_40 (lv_at hl 3 rfl) ?_
    refine pu_l (As := [.int x4]) (rest := []) ⟨hx, hb, hml, hown, hts⟩ (c_M_none_I l _ x4) pu_pre (gw_call (k := 1) hts tw_511 tw_512 tw_4 tw_513 (by decide +kernel) rfl rfl ⟨Nat.le_of_ble_eq_true rfl, Nat.le_of_ble_eq_true rfl⟩) rfl hl.1 rfl (Nat.le_of_ble_eq_true rfl) ⟨Nat.zero_le _, Nat.zero_le _⟩ d_M_multiply_JJI_42 ?_
    exact pu_lret hx hb hr hlocks d_M_multiply_JJI_45 (by exact Eq.symm (hw.trans (if_neg c1)))
  · refine lv_lload_n hx hb d_M_multiply_JJI_31 rfl (lv_at hl 2 rfl) ?_
    refine lv_iload hx hb d_M_multiply_JJI_32 (lv_at hl 3 rfl) ?_
    refine pu_i (As := [.long x2, .int x4]) (rest := []) ⟨hx, hb, hml, hown, hts⟩ (c_M_isNone_JI l _ x2 x4) pu_pre (gw_call (k := 2) hts tw_498 tw_499 tw_4 tw_500 (by decide +kernel) rfl rfl ⟨Nat.le_of_ble_eq_true rfl, Nat.le_of_ble_eq_true rfl⟩) rfl hl.1 rfl (Nat.le_of_ble_eq_true rfl) ⟨Nat.zero_le _, Nat.zero_le _⟩ d_M_multiply_JJI_34 ?_
    refine lv_if_eq (tgt := 46) hx hb d_M_multiply_JJI_37 (by decide) (fun c2 => ?_) (fun c2 => ?_)
    · refine lv_lload_n hx hb d_M_multiply_JJI_46 rfl (lv_at hl 1 rfl) ?_
      refine lv_iload hx hb d_M_multiply_JJI_47 (lv_at hl 3 rfl) ?_
      refine pu_i (As := [.long x0, .int x4]) (rest := []) ⟨hx, hb, hml, hown, hts⟩ (c_M_isInfinite_JI l _ x0 x4) pu_pre (gw_call (k := 2) hts tw_516 tw_517 tw_4 tw_518 (by decide +kernel) rfl rfl ⟨Nat.le_of_ble_eq_true rfl, Nat.le_of_ble_eq_true rfl⟩) rfl hl.1 rfl (Nat.le_of_ble_eq_true rfl) ⟨Nat.zero_le _, Nat.zero_le _⟩ d_M_multiply_JJI_49 ?_
      refine lv_if_ne (tgt := 64) hx hb d_M_multiply_JJI_52 (by decide) (fun c3 => ?_) (fun c3 => ?_)
      · exact k_M_multiply_JJI_64 C0 hRT x0 x2 x4 s0 hk_x4 ls (lv_sub hl [1, 2, 3, 0] rfl) (by exact (hw.trans (Eq.trans (if_pos c1) (Eq.trans (if_pos c2) (if_neg c3)))))
      · refine lv_lload_n hx hb d_M_multiply_JJI_55 rfl (lv_at hl 2 rfl) ?_
        refine lv_iload hx hb d_M_multiply_JJI_56 (lv_at hl 3 rfl) ?_
        refine pu_i (As := [.long x2, .int x4]) (rest := []) ⟨hx, hb, hml, hown, hts⟩ (c_M_isInfinite_JI l _ x2 x4) pu_pre (gw_call (k := 2) hts tw_516 tw_517 tw_4 tw_518 (by decide +kernel) rfl rfl ⟨Nat.le_of_ble_eq_true rfl, Nat.le_of_ble_eq_true rfl⟩) rfl hl.1 rfl (Nat.le_of_ble_eq_true rfl) ⟨Nat.zero_le _, Nat.zero_le _⟩ d_M_multiply_JJI_58 ?_
        refine lv_if_eq (tgt := 103) hx hb d_M_multiply_JJI_61 (by decide) (fun c4 => ?_) (fun c4 => ?_)
        · refine lv_lload_n hx hb d_M_multiply_JJI_103 rfl (lv_at hl 1 rfl) ?_
          refine lv_iload hx hb d_M_multiply_JJI_104 (lv_at hl 3 rfl) ?_
          refine pu_i (As := [.long x0, .int x4]) (rest := []) ⟨hx, hb, hml, hown, hts⟩ (c_M_isZero_JI l _ x0 x4) pu_pre (gw_call (k := 2) hts tw_579 tw_580 tw_4 tw_581 (by decide +kernel) rfl rfl ⟨Nat.le_of_ble_eq_true rfl, Nat.le_of_ble_eq_true rfl⟩) rfl hl.1 rfl (Nat.le_of_ble_eq_true rfl) ⟨Nat.zero_le _, Nat.zero_le _⟩ d_M_multiply_JJI_106 ?_
          refine lv_if_ne (tgt := 121) hx hb d_M_multiply_JJI_109 (by decide) (fun c5 => ?_) (fun c5 => ?_)
          · refine lv_lconst (v := (0 : Int64)) hx hb d_M_multiply_JJI_121 (by decide) ?_
            refine lv_iload hx hb d_M_multiply_JJI_122 (lv_at hl 0 rfl) ?_
            refine lv_iload hx hb d_M_multiply_JJI_124 (lv_at hl 3 rfl) ?_
            refine pu_l (As := [.long (0 : Int64), .int s0, .int x4]) (rest := []) ⟨hx, hb, hml, hown, hts⟩ (c_M_signed_JZI l _ (0 : Int64) s0 x4) pu_pre (gw_call (k := 3) hts tw_522 tw_523 tw_4 tw_524 (by decide +kernel) rfl rfl ⟨Nat.le_of_ble_eq_true rfl, Nat.le_of_ble_eq_true rfl⟩) rfl hl.1 rfl (Nat.le_of_ble_eq_true rfl) ⟨Nat.zero_le _, Nat.zero_le _⟩ d_M_multiply_JJI_126 ?_
            exact pu_lret hx hb hr hlocks d_M_multiply_JJI_129 (by exact Eq.symm (hw.trans (Eq.trans (if_pos c1) (Eq.trans (if_pos c2) (Eq.trans (if_pos c3) (Eq.trans (if_pos c4) (if_neg c5)))))))
          · refine lv_lload_n hx hb d_M_multiply_JJI_112 rfl (lv_at hl 2 rfl) ?_
            refine lv_iload hx hb d_M_multiply_JJI_113 (lv_at hl 3 rfl) ?_
            refine pu_i (As := [.long x2, .int x4]) (rest := []) ⟨hx, hb, hml, hown, hts⟩ (c_M_isZero_JI l _ x2 x4) pu_pre (gw_call (k := 2) hts tw_579 tw_580 tw_4 tw_581 (by decide +kernel) rfl rfl ⟨Nat.le_of_ble_eq_true rfl, Nat.le_of_ble_eq_true rfl⟩) rfl hl.1 rfl (Nat.le_of_ble_eq_true rfl) ⟨Nat.zero_le _, Nat.zero_le _⟩ d_M_multiply_JJI_115 ?_
            refine lv_if_eq (tgt := 130) hx hb d_M_multiply_JJI_118 (by decide) (fun c6 => ?_) (fun c6 => ?_)
            · refine lv_lload_n hx hb d_M_multiply_JJI_130 rfl (lv_at hl 1 rfl) ?_
              refine lv_iload hx hb d_M_multiply_JJI_131 (lv_at hl 3 rfl) ?_
              refine pu_l (As := [.long x0, .int x4]) (rest := []) ⟨hx, hb, hml, hown, hts⟩ (c_M_whole_JI l _ t0 t1 t2 x0 x4 hk_x4) (pr_pre hRT) (gw_call (k := 2) hts tw_525 tw_526 tw_4 tw_527 (by decide +kernel) rfl rfl ⟨Nat.le_of_ble_eq_true rfl, Nat.le_of_ble_eq_true rfl⟩) rfl hl.1 rfl (Nat.le_of_ble_eq_true rfl) ⟨Nat.zero_le _, Nat.zero_le _⟩ d_M_multiply_JJI_133 ?_
              refine lv_topl (fun v7 e7 => ?_)
              refine lv_lstore (lv' := [(6, .long v7), (5, .int s0), (0, .long x0), (2, .long x2), (4, .int x4)]) hx hb d_M_multiply_JJI_136 hl (by decide) rfl (fun ls hl => ?_)
              refine lv_lload_n hx hb d_M_multiply_JJI_138 rfl (lv_at hl 3 rfl) ?_
              refine lv_iload hx hb d_M_multiply_JJI_139 (lv_at hl 4 rfl) ?_
              refine pu_l (As := [.long x2, .int x4]) (rest := []) ⟨hx, hb, hml, hown, hts⟩ (c_M_whole_JI l _ t0 t1 t2 x2 x4 hk_x4) (pr_pre hRT) (gw_call (k := 2) hts tw_525 tw_526 tw_4 tw_527 (by decide +kernel) rfl rfl ⟨Nat.le_of_ble_eq_true rfl, Nat.le_of_ble_eq_true rfl⟩) rfl hl.1 rfl (Nat.le_of_ble_eq_true rfl) ⟨Nat.zero_le _, Nat.zero_le _⟩ d_M_multiply_JJI_141 ?_
              refine lv_topl (fun v8 e8 => ?_)
              refine lv_lstore (lv' := [(8, .long v8), (6, .long v7), (5, .int s0), (0, .long x0), (2, .long x2), (4, .int x4)]) hx hb d_M_multiply_JJI_144 hl (by decide) rfl (fun ls hl => ?_)
              refine lv_lload_n hx hb d_M_multiply_JJI_146 rfl (lv_at hl 3 rfl) ?_
              refine lv_iload hx hb d_M_multiply_JJI_147 (lv_at hl 5 rfl) ?_
              refine pu_i (As := [.long x0, .int x4]) (rest := []) ⟨hx, hb, hml, hown, hts⟩ (c_M_power_JI l _ t0 t1 t2 x0 x4 hk_x4) (pr_pre hRT) (gw_call (k := 2) hts tw_530 tw_531 tw_4 tw_532 (by decide +kernel) rfl rfl ⟨Nat.le_of_ble_eq_true rfl, Nat.le_of_ble_eq_true rfl⟩) rfl hl.1 rfl (Nat.le_of_ble_eq_true rfl) ⟨Nat.zero_le _, Nat.zero_le _⟩ d_M_multiply_JJI_149 ?_
              refine lv_lload_n hx hb d_M_multiply_JJI_152 rfl (lv_at hl 4 rfl) ?_
              refine lv_iload hx hb d_M_multiply_JJI_153 (lv_at hl 5 rfl) ?_
              refine pu_i (As := [.long x2, .int x4]) (rest := [.int (f_M_power_JI x0 x4)]) ⟨hx, hb, hml, hown, hts⟩ (c_M_power_JI l _ t0 t1 t2 x2 x4 hk_x4) (pr_pre hRT) (gw_call (k := 2) hts tw_530 tw_531 tw_4 tw_532 (by decide +kernel) rfl rfl ⟨Nat.le_of_ble_eq_true rfl, Nat.le_of_ble_eq_true rfl⟩) rfl hl.1 rfl (Nat.le_of_ble_eq_true rfl) ⟨Nat.zero_le _, Nat.zero_le _⟩ d_M_multiply_JJI_155 ?_
              refine lv_iadd hx hb d_M_multiply_JJI_158 ?_
              refine lv_lload hx hb d_M_multiply_JJI_159 (lv_at hl 1 rfl) ?_
              refine lv_iload hx hb d_M_multiply_JJI_161 (lv_at hl 5 rfl) ?_
              refine pu_i (As := [.long v7, .int x4]) (rest := [.int ((f_M_power_JI x0 x4) + (f_M_power_JI x2 x4))]) ⟨hx, hb, hml, hown, hts⟩ (c_M_moved_JI l _ t0 t1 t2 v7 x4 hk_x4) (pr_pre hRT) (gw_call (k := 2) hts tw_582 tw_583 tw_4 tw_584 (by decide +kernel) rfl rfl ⟨Nat.le_of_ble_eq_true rfl, Nat.le_of_ble_eq_true rfl⟩) rfl hl.1 rfl (Nat.le_of_ble_eq_true rfl) ⟨Nat.zero_le _, Nat.zero_le _⟩ d_M_multiply_JJI_163 ?_
              refine lv_isub hx hb d_M_multiply_JJI_166 ?_
              refine lv_lload hx hb d_M_multiply_JJI_167 (lv_at hl 0 rfl) ?_
              refine lv_iload hx hb d_M_multiply_JJI_169 (lv_at hl 5 rfl) ?_
              refine pu_i (As := [.long v8, .int x4]) (rest := [.int (((f_M_power_JI x0 x4) + (f_M_power_JI x2 x4)) - (f_M_moved_JI v7 x4))]) ⟨hx, hb, hml, hown, hts⟩ (c_M_moved_JI l _ t0 t1 t2 v8 x4 hk_x4) (pr_pre hRT) (gw_call (k := 2) hts tw_582 tw_583 tw_4 tw_584 (by decide +kernel) rfl rfl ⟨Nat.le_of_ble_eq_true rfl, Nat.le_of_ble_eq_true rfl⟩) rfl hl.1 rfl (Nat.le_of_ble_eq_true rfl) ⟨Nat.zero_le _, Nat.zero_le _⟩ d_M_multiply_JJI_171 ?_
              refine lv_isub hx hb d_M_multiply_JJI_174 ?_
              refine lv_topi (fun v9 e9 => ?_)
              refine lv_istore (lv' := [(10, .int v9), (8, .long v8), (6, .long v7), (5, .int s0), (0, .long x0), (2, .long x2), (4, .int x4)]) hx hb d_M_multiply_JJI_175 hl (by decide) rfl (fun ls hl => ?_)
              refine lv_lload hx hb d_M_multiply_JJI_177 (lv_at hl 2 rfl) ?_
              refine lv_lload hx hb d_M_multiply_JJI_179 (lv_at hl 2 rfl) ?_
              refine lv_iload hx hb d_M_multiply_JJI_181 (lv_at hl 6 rfl) ?_
              refine pu_i (As := [.long v7, .int x4]) (rest := [.long v7]) ⟨hx, hb, hml, hown, hts⟩ (c_M_moved_JI l _ t0 t1 t2 v7 x4 hk_x4) (pr_pre hRT) (gw_call (k := 2) hts tw_582 tw_583 tw_4 tw_584 (by decide +kernel) rfl rfl ⟨Nat.le_of_ble_eq_true rfl, Nat.le_of_ble_eq_true rfl⟩) rfl hl.1 rfl (Nat.le_of_ble_eq_true rfl) ⟨Nat.zero_le _, Nat.zero_le _⟩ d_M_multiply_JJI_183 ?_
              refine lv_lshl (v := j_shl v7 (f_M_moved_JI v7 x4)) hx hb d_M_multiply_JJI_186 rfl ?_
              refine lv_topl (fun v10 e10 => ?_)
              refine lv_lstore (lv' := [(6, .long v10), (10, .int v9), (8, .long v8), (5, .int s0), (0, .long x0), (2, .long x2), (4, .int x4)]) hx hb d_M_multiply_JJI_187 hl (by decide) rfl (fun ls hl => ?_)
              refine lv_lload hx hb d_M_multiply_JJI_189 (lv_at hl 2 rfl) ?_
              refine lv_lload hx hb d_M_multiply_JJI_191 (lv_at hl 2 rfl) ?_
              refine lv_iload hx hb d_M_multiply_JJI_193 (lv_at hl 6 rfl) ?_
              refine pu_i (As := [.long v8, .int x4]) (rest := [.long v8]) ⟨hx, hb, hml, hown, hts⟩ (c_M_moved_JI l _ t0 t1 t2 v8 x4 hk_x4) (pr_pre hRT) (gw_call (k := 2) hts tw_582 tw_583 tw_4 tw_584 (by decide +kernel) rfl rfl ⟨Nat.le_of_ble_eq_true rfl, Nat.le_of_ble_eq_true rfl⟩) rfl hl.1 rfl (Nat.le_of_ble_eq_true rfl) ⟨Nat.zero_le _, Nat.zero_le _⟩ d_M_multiply_JJI_195 ?_
              refine lv_lshl (v := j_shl v8 (f_M_moved_JI v8 x4)) hx hb d_M_multiply_JJI_198 rfl ?_
              refine lv_topl (fun v11 e11 => ?_)
              refine lv_lstore (lv' := [(8, .long v11), (6, .long v10), (10, .int v9), (5, .int s0), (0, .long x0), (2, .long x2), (4, .int x4)]) hx hb d_M_multiply_JJI_199 hl (by decide) rfl (fun ls hl => ?_)
              refine lv_iload hx hb d_M_multiply_JJI_201 (lv_at hl 6 rfl) ?_
              refine lv_iconst (v := 1) hx hb d_M_multiply_JJI_203 (by decide) ?_
              refine lv_icmp_ne (tgt := 222) hx hb d_M_multiply_JJI_204 (by decide) (fun c12 => ?_) (fun c12 => ?_)
              · refine lv_lload hx hb d_M_multiply_JJI_222 (lv_at hl 1 rfl) ?_
                refine lv_bipush (v := (27 : Int32)) hx hb d_M_multiply_JJI_224 (by decide) ?_
                refine lv_lshr (v := j_shr v10 (27 : Int32)) hx hb d_M_multiply_JJI_226 rfl ?_
                refine lv_topl (fun v13 e13 => ?_)
                refine lv_lstore (lv' := [(11, .long v13), (8, .long v11), (6, .long v10), (10, .int v9), (5, .int s0), (0, .long x0), (2, .long x2), (4, .int x4)]) hx hb d_M_multiply_JJI_227 hl (by decide) rfl (fun ls hl => ?_)
                refine lv_lload hx hb d_M_multiply_JJI_229 (lv_at hl 2 rfl) ?_
                refine lv_ldc2 (v := (134217727 : Int64)) hx hb hown (hts _ (gm tw_585)) d_M_multiply_JJI_231 ?_
                refine lv_land hx hb d_M_multiply_JJI_234 ?_
                refine lv_topl (fun v14 e14 => ?_)
                refine lv_lstore (lv' := [(13, .long v14), (11, .long v13), (8, .long v11), (6, .long v10), (10, .int v9), (5, .int s0), (0, .long x0), (2, .long x2), (4, .int x4)]) hx hb d_M_multiply_JJI_235 hl (by decide) rfl (fun ls hl => ?_)
                refine lv_lload hx hb d_M_multiply_JJI_237 (lv_at hl 2 rfl) ?_
                refine lv_bipush (v := (27 : Int32)) hx hb d_M_multiply_JJI_239 (by decide) ?_
                refine lv_lshr (v := j_shr v11 (27 : Int32)) hx hb d_M_multiply_JJI_241 rfl ?_
                refine lv_topl (fun v15 e15 => ?_)
                refine lv_lstore (lv' := [(15, .long v15), (13, .long v14), (11, .long v13), (8, .long v11), (6, .long v10), (10, .int v9), (5, .int s0), (0, .long x0), (2, .long x2), (4, .int x4)]) hx hb d_M_multiply_JJI_242 hl (by decide) rfl (fun ls hl => ?_)
                refine lv_lload hx hb d_M_multiply_JJI_244 (lv_at hl 3 rfl) ?_
                refine lv_ldc2 (v := (134217727 : Int64)) hx hb hown (hts _ (gm tw_585)) d_M_multiply_JJI_246 ?_
                refine lv_land hx hb d_M_multiply_JJI_249 ?_
                refine lv_topl (fun v16 e16 => ?_)
                refine lv_lstore (lv' := [(17, .long v16), (15, .long v15), (13, .long v14), (11, .long v13), (8, .long v11), (6, .long v10), (10, .int v9), (5, .int s0), (0, .long x0), (2, .long x2), (4, .int x4)]) hx hb d_M_multiply_JJI_250 hl (by decide) rfl (fun ls hl => ?_)
                refine lv_lload hx hb d_M_multiply_JJI_252 (lv_at hl 3 rfl) ?_
                refine lv_lload hx hb d_M_multiply_JJI_254 (lv_at hl 0 rfl) ?_
                refine lv_lmul hx hb d_M_multiply_JJI_256 ?_
                refine lv_lload hx hb d_M_multiply_JJI_257 (lv_at hl 2 rfl) ?_
                refine lv_lload hx hb d_M_multiply_JJI_259 (lv_at hl 1 rfl) ?_
                refine lv_lmul hx hb d_M_multiply_JJI_261 ?_
                refine lv_ladd hx hb d_M_multiply_JJI_262 ?_
                refine lv_topl (fun v17 e17 => ?_)
                refine lv_lstore (lv' := [(19, .long v17), (17, .long v16), (15, .long v15), (13, .long v14), (11, .long v13), (8, .long v11), (6, .long v10), (10, .int v9), (5, .int s0), (0, .long x0), (2, .long x2), (4, .int x4)]) hx hb d_M_multiply_JJI_263 hl (by decide) rfl (fun ls hl => ?_)
                refine lv_lload hx hb d_M_multiply_JJI_265 (lv_at hl 3 rfl) ?_
                refine lv_lload hx hb d_M_multiply_JJI_267 (lv_at hl 1 rfl) ?_
                refine lv_lmul hx hb d_M_multiply_JJI_269 ?_
                refine lv_lload hx hb d_M_multiply_JJI_270 (lv_at hl 0 rfl) ?_
                refine lv_ldc2 (v := (134217727 : Int64)) hx hb hown (hts _ (gm tw_585)) d_M_multiply_JJI_272 ?_
                refine lv_land hx hb d_M_multiply_JJI_275 ?_
                refine lv_bipush (v := (27 : Int32)) hx hb d_M_multiply_JJI_276 (by decide) ?_
                refine lv_lshl (v := j_shl (v17 &&& (134217727 : Int64)) (27 : Int32)) hx hb d_M_multiply_JJI_278 rfl ?_
                refine lv_ladd hx hb d_M_multiply_JJI_279 ?_
                refine lv_topl (fun v18 e18 => ?_)
                refine lv_lstore (lv' := [(21, .long v18), (19, .long v17), (17, .long v16), (15, .long v15), (13, .long v14), (11, .long v13), (8, .long v11), (6, .long v10), (10, .int v9), (5, .int s0), (0, .long x0), (2, .long x2), (4, .int x4)]) hx hb d_M_multiply_JJI_280 hl (by decide) rfl (fun ls hl => ?_)
                refine lv_lload hx hb d_M_multiply_JJI_282 (lv_at hl 5 rfl) ?_
                refine lv_lload hx hb d_M_multiply_JJI_284 (lv_at hl 3 rfl) ?_
                refine lv_lmul hx hb d_M_multiply_JJI_286 ?_
                refine lv_lload hx hb d_M_multiply_JJI_287 (lv_at hl 1 rfl) ?_
                refine lv_bipush (v := (27 : Int32)) hx hb d_M_multiply_JJI_289 (by decide) ?_
                refine lv_lshr (v := j_shr v17 (27 : Int32)) hx hb d_M_multiply_JJI_291 rfl ?_
                refine lv_ladd hx hb d_M_multiply_JJI_292 ?_
                refine lv_lload hx hb d_M_multiply_JJI_293 (lv_at hl 0 rfl) ?_
                refine lv_bipush (v := (54 : Int32)) hx hb d_M_multiply_JJI_295 (by decide) ?_
                refine lv_lshr (v := j_shr v18 (54 : Int32)) hx hb d_M_multiply_JJI_297 rfl ?_
                refine lv_ladd hx hb d_M_multiply_JJI_298 ?_
                refine lv_topl (fun v19 e19 => ?_)
                refine lv_lstore (lv' := [(23, .long v19), (21, .long v18), (19, .long v17), (17, .long v16), (15, .long v15), (13, .long v14), (11, .long v13), (8, .long v11), (6, .long v10), (10, .int v9), (5, .int s0), (0, .long x0), (2, .long x2), (4, .int x4)]) hx hb d_M_multiply_JJI_299 hl (by decide) rfl (fun ls hl => ?_)
                refine lv_lload hx hb d_M_multiply_JJI_301 (lv_at hl 1 rfl) ?_
                refine lv_ldc2 (v := (18014398509481983 : Int64)) hx hb hown (hts _ (gm tw_586)) d_M_multiply_JJI_303 ?_
                refine lv_land hx hb d_M_multiply_JJI_306 ?_
                refine lv_topl (fun v20 e20 => ?_)
                refine lv_lstore (lv' := [(21, .long v20), (23, .long v19), (19, .long v17), (17, .long v16), (15, .long v15), (13, .long v14), (11, .long v13), (8, .long v11), (6, .long v10), (10, .int v9), (5, .int s0), (0, .long x0), (2, .long x2), (4, .int x4)]) hx hb d_M_multiply_JJI_307 hl (by decide) rfl (fun ls hl => ?_)
                refine lv_iload hx hb d_M_multiply_JJI_309 (lv_at hl 10 rfl) ?_
                refine lv_lload hx hb d_M_multiply_JJI_311 (lv_at hl 1 rfl) ?_
                refine lv_bipush (v := (8 : Int32)) hx hb d_M_multiply_JJI_313 (by decide) ?_
                refine lv_lshl (v := j_shl v19 (8 : Int32)) hx hb d_M_multiply_JJI_315 rfl ?_
                refine lv_lload hx hb d_M_multiply_JJI_316 (lv_at hl 0 rfl) ?_
                refine lv_bipush (v := (46 : Int32)) hx hb d_M_multiply_JJI_318 (by decide) ?_
                refine lv_lshr (v := j_shr v20 (46 : Int32)) hx hb d_M_multiply_JJI_320 rfl ?_
                refine lv_lor hx hb d_M_multiply_JJI_321 ?_
                refine lv_iload hx hb d_M_multiply_JJI_322 (lv_at hl 9 rfl) ?_
                refine lv_bipush (v := (46 : Int32)) hx hb d_M_multiply_JJI_324 (by decide) ?_
                refine lv_iadd hx hb d_M_multiply_JJI_326 ?_
                refine lv_lload hx hb d_M_multiply_JJI_327 (lv_at hl 0 rfl) ?_
                refine lv_ldc2 (v := (70368744177663 : Int64)) hx hb hown (hts _ (gm tw_587)) d_M_multiply_JJI_329 ?_
                refine lv_land hx hb d_M_multiply_JJI_332 ?_
                refine lv_lconst (v := (0 : Int64)) hx hb d_M_multiply_JJI_333 (by decide) ?_
                refine W.lcmp hx hb d_M_multiply_JJI_334 ?_
                refine lv_if_eq (tgt := 342) hx hb d_M_multiply_JJI_335 (by decide) (fun c21 => ?_) (fun c21 => ?_)
                · refine lv_iconst (v := 0) hx hb d_M_multiply_JJI_342 (by decide) ?_
                  refine lv_iload hx hb d_M_multiply_JJI_343 (lv_at hl 13 rfl) ?_
                  refine pu_l (As := [.int s0, .long ((j_shl v19 (8 : Int32)) ||| (j_shr v20 (46 : Int32))), .int (v9 + (46 : Int32)), .int (0 : Int32), .int x4]) (rest := []) ⟨hx, hb, hml, hown, hts⟩ (c_M_rounded_ZJIZI l _ t0 t1 t2 s0 ((j_shl v19 (8 : Int32)) ||| (j_shr v20 (46 : Int32))) (v9 + (46 : Int32)) (0 : Int32) x4 hk_x4) (pr_pre hRT) (gw_call (k := 5) hts tw_539 tw_540 tw_4 tw_541 (by decide +kernel) rfl rfl ⟨Nat.le_of_ble_eq_true rfl, Nat.le_of_ble_eq_true rfl⟩) rfl hl.1 rfl (Nat.le_of_ble_eq_true rfl) ⟨Nat.zero_le _, Nat.zero_le _⟩ d_M_multiply_JJI_345 ?_
                  exact pu_lret hx hb hr hlocks d_M_multiply_JJI_348 (by have qe7 := e7.symm; have qe8 := e8.symm; have qe9 := e9.symm; have qe10 := e10.symm; have qe11 := e11.symm; have qe13 := e13.symm; have qe14 := e14.symm; have qe15 := e15.symm; have qe16 := e16.symm; have qe17 := e17.symm; have qe18 := e18.symm; have qe19 := e19.symm; have qe20 := e20.symm; subst qe7 qe8 qe9 qe10 qe11 qe13 qe14 qe15 qe16 qe17 qe18 qe19 qe20; exact Eq.symm (hw.trans (Eq.trans (if_pos c1) (Eq.trans (if_pos c2) (Eq.trans (if_pos c3) (Eq.trans (if_pos c4) (Eq.trans (if_pos c5) (Eq.trans (if_pos c6) (Eq.trans (if_neg c12) (if_pos c21))))))))))
                · refine lv_iconst (v := 1) hx hb d_M_multiply_JJI_338 (by decide) ?_
                  refine lv_goto (tgt := 343) hx hb d_M_multiply_JJI_339 (by decide) ?_
                  refine lv_iload hx hb d_M_multiply_JJI_343 (lv_at hl 13 rfl) ?_
                  refine pu_l (As := [.int s0, .long ((j_shl v19 (8 : Int32)) ||| (j_shr v20 (46 : Int32))), .int (v9 + (46 : Int32)), .int (1 : Int32), .int x4]) (rest := []) ⟨hx, hb, hml, hown, hts⟩ (c_M_rounded_ZJIZI l _ t0 t1 t2 s0 ((j_shl v19 (8 : Int32)) ||| (j_shr v20 (46 : Int32))) (v9 + (46 : Int32)) (1 : Int32) x4 hk_x4) (pr_pre hRT) (gw_call (k := 5) hts tw_539 tw_540 tw_4 tw_541 (by decide +kernel) rfl rfl ⟨Nat.le_of_ble_eq_true rfl, Nat.le_of_ble_eq_true rfl⟩) rfl hl.1 rfl (Nat.le_of_ble_eq_true rfl) ⟨Nat.zero_le _, Nat.zero_le _⟩ d_M_multiply_JJI_345 ?_
                  exact pu_lret hx hb hr hlocks d_M_multiply_JJI_348 (by have qe7 := e7.symm; have qe8 := e8.symm; have qe9 := e9.symm; have qe10 := e10.symm; have qe11 := e11.symm; have qe13 := e13.symm; have qe14 := e14.symm; have qe15 := e15.symm; have qe16 := e16.symm; have qe17 := e17.symm; have qe18 := e18.symm; have qe19 := e19.symm; have qe20 := e20.symm; subst qe7 qe8 qe9 qe10 qe11 qe13 qe14 qe15 qe16 qe17 qe18 qe19 qe20; exact Eq.symm (hw.trans (Eq.trans (if_pos c1) (Eq.trans (if_pos c2) (Eq.trans (if_pos c3) (Eq.trans (if_pos c4) (Eq.trans (if_pos c5) (Eq.trans (if_pos c6) (Eq.trans (if_neg c12) (if_neg c21))))))))))
              · refine lv_iload hx hb d_M_multiply_JJI_207 (lv_at hl 3 rfl) ?_
                refine lv_lload hx hb d_M_multiply_JJI_209 (lv_at hl 1 rfl) ?_
                refine lv_lload hx hb d_M_multiply_JJI_211 (lv_at hl 0 rfl) ?_
                refine lv_lmul hx hb d_M_multiply_JJI_213 ?_
                refine lv_iload hx hb d_M_multiply_JJI_214 (lv_at hl 2 rfl) ?_
                refine lv_iload hx hb d_M_multiply_JJI_216 (lv_at hl 6 rfl) ?_
                refine pu_l (As := [.int s0, .long (v10 * v11), .int v9, .int x4]) (rest := []) ⟨hx, hb, hml, hown, hts⟩ (c_M_exact_ZJII l _ t0 t1 t2 s0 (v10 * v11) v9 x4 hk_x4) (pr_pre hRT) (gw_call (k := 4) hts tw_536 tw_537 tw_4 tw_538 (by decide +kernel) rfl rfl ⟨Nat.le_of_ble_eq_true rfl, Nat.le_of_ble_eq_true rfl⟩) rfl hl.1 rfl (Nat.le_of_ble_eq_true rfl) ⟨Nat.zero_le _, Nat.zero_le _⟩ d_M_multiply_JJI_218 ?_
                exact pu_lret hx hb hr hlocks d_M_multiply_JJI_221 (by have qe7 := e7.symm; have qe8 := e8.symm; have qe9 := e9.symm; have qe10 := e10.symm; have qe11 := e11.symm; subst qe7 qe8 qe9 qe10 qe11; exact Eq.symm (hw.trans (Eq.trans (if_pos c1) (Eq.trans (if_pos c2) (Eq.trans (if_pos c3) (Eq.trans (if_pos c4) (Eq.trans (if_pos c5) (Eq.trans (if_pos c6) (if_pos c12)))))))))
            · refine lv_lconst (v := (0 : Int64)) hx hb d_M_multiply_JJI_121 (by decide) ?_
              refine lv_iload hx hb d_M_multiply_JJI_122 (lv_at hl 0 rfl) ?_
              refine lv_iload hx hb d_M_multiply_JJI_124 (lv_at hl 3 rfl) ?_
              refine pu_l (As := [.long (0 : Int64), .int s0, .int x4]) (rest := []) ⟨hx, hb, hml, hown, hts⟩ (c_M_signed_JZI l _ (0 : Int64) s0 x4) pu_pre (gw_call (k := 3) hts tw_522 tw_523 tw_4 tw_524 (by decide +kernel) rfl rfl ⟨Nat.le_of_ble_eq_true rfl, Nat.le_of_ble_eq_true rfl⟩) rfl hl.1 rfl (Nat.le_of_ble_eq_true rfl) ⟨Nat.zero_le _, Nat.zero_le _⟩ d_M_multiply_JJI_126 ?_
              exact pu_lret hx hb hr hlocks d_M_multiply_JJI_129 (by exact Eq.symm (hw.trans (Eq.trans (if_pos c1) (Eq.trans (if_pos c2) (Eq.trans (if_pos c3) (Eq.trans (if_pos c4) (Eq.trans (if_pos c5) (if_neg c6))))))))
        · exact k_M_multiply_JJI_64 C0 hRT x0 x2 x4 s0 hk_x4 ls (lv_sub hl [1, 2, 3, 0] rfl) (by exact (hw.trans (Eq.trans (if_pos c1) (Eq.trans (if_pos c2) (Eq.trans (if_pos c3) (if_neg c4))))))
    · refine lv_iload hx hb d_M_multiply_JJI_40 (lv_at hl 3 rfl) ?_
      refine pu_l (As := [.int x4]) (rest := []) ⟨hx, hb, hml, hown, hts⟩ (c_M_none_I l _ x4) pu_pre (gw_call (k := 1) hts tw_511 tw_512 tw_4 tw_513 (by decide +kernel) rfl rfl ⟨Nat.le_of_ble_eq_true rfl, Nat.le_of_ble_eq_true rfl⟩) rfl hl.1 rfl (Nat.le_of_ble_eq_true rfl) ⟨Nat.zero_le _, Nat.zero_le _⟩ d_M_multiply_JJI_42 ?_
      exact pu_lret hx hb hr hlocks d_M_multiply_JJI_45 (by exact Eq.symm (hw.trans (Eq.trans (if_pos c1) (if_neg c2))))
def f_M_multiply_JJI (x0 : Int64) (x2 : Int64) (x4 : Int32) : Int64 :=
  if (f_M_minus_JI x0 x4) = (f_M_minus_JI x2 x4) then
    f_M_multiply_JJI_20 x0 x2 x4 (0 : Int32)
  else
    f_M_multiply_JJI_20 x0 x2 x4 (1 : Int32)
set_option maxHeartbeats 4000000 in
set_option maxRecDepth 100000 in
theorem c_M_multiply_JJI (l : Launch) (h : Heap) (t0 t1 t2 : Nat) (x0 : Int64) (x2 : Int64) (x4 : Int32) (hk_x4 : vp_in x4 2) : Met l y_M_multiply_JJI (gw y_M_multiply_JJI b_M_multiply_JJI 25 (some .long)) { frames := 4, cells := 0, slots := 0, locals := 101 } (pr_Pc [.long x0, .long x2, .int x4] h t0 t1 t2) (pu_Ml (f_M_multiply_JJI x0 x2 x4) h) 0 0 (fun _ => False) := by
  refine Met.ofW (cc := b_M_multiply_JJI) (maxL := 25) (ret := (some .long)) (by decide) rfl ?_
  intro p e s m args below meth c s₁ B hml hv
  obtain ⟨rfl, hh, hRT⟩ := hv
  subst hh
  obtain ⟨hT0, hT1, hT2⟩ := id hRT
  have hx := B.exec
  have hb := B.bytes
  have hr := B.returns
  have hts := atoms_spec (ws := (gw y_M_multiply_JJI b_M_multiply_JJI 25 (some .long))) B.pre
  have hown : s.vm.findClass "MotionLabModel" = some m.cls := findClass_of_methodNamed B.named
  have hlocks := B.notSynchronized
  have C0 : pu_C p s m _ meth c b_M_multiply_JJI 25 "MotionLabModel" (some .long) (gw y_M_multiply_JJI b_M_multiply_JJI 25 (some .long)) := ⟨hx, hb, hml, hown, hts, hr, hlocks⟩
  have hl := lv_entry ([.long x0, .long x2, .int x4]) (n := 25) (Nat.le_of_ble_eq_true rfl)
  rw [lg_entry_eq]
  generalize (lg_sl ([.long x0, .long x2, .int x4]) ++ List.replicate (25 - (lg_sl ([.long x0, .long x2, .int x4])).length) Slot.unset).toArray = ls at hl ⊢
  have hl : lv_has ls 25 [(0, .long x0), (2, .long x2), (4, .int x4)] := hl
  refine lv_lload_n hx hb d_M_multiply_JJI_0 rfl (lv_at hl 0 rfl) ?_
  refine lv_iload hx hb d_M_multiply_JJI_1 (lv_at hl 2 rfl) ?_
  refine pu_i (As := [.long x0, .int x4]) (rest := []) ⟨hx, hb, hml, hown, hts⟩ (c_M_minus_JI l _ x0 x4) pu_pre (gw_call (k := 2) hts tw_519 tw_520 tw_4 tw_521 (by decide +kernel) rfl rfl ⟨Nat.le_of_ble_eq_true rfl, Nat.le_of_ble_eq_true rfl⟩) rfl hl.1 rfl (Nat.le_of_ble_eq_true rfl) ⟨Nat.zero_le _, Nat.zero_le _⟩ d_M_multiply_JJI_3 ?_
  refine lv_lload_n hx hb d_M_multiply_JJI_6 rfl (lv_at hl 1 rfl) ?_
  refine lv_iload hx hb d_M_multiply_JJI_7 (lv_at hl 2 rfl) ?_
  refine pu_i (As := [.long x2, .int x4]) (rest := [.int (f_M_minus_JI x0 x4)]) ⟨hx, hb, hml, hown, hts⟩ (c_M_minus_JI l _ x2 x4) pu_pre (gw_call (k := 2) hts tw_519 tw_520 tw_4 tw_521 (by decide +kernel) rfl rfl ⟨Nat.le_of_ble_eq_true rfl, Nat.le_of_ble_eq_true rfl⟩) rfl hl.1 rfl (Nat.le_of_ble_eq_true rfl) ⟨Nat.zero_le _, Nat.zero_le _⟩ d_M_multiply_JJI_9 ?_
  refine lv_icmp_eq (tgt := 19) hx hb d_M_multiply_JJI_12 (by decide) (fun c1 => ?_) (fun c1 => ?_)
  · refine lv_iconst (v := 0) hx hb d_M_multiply_JJI_19 (by decide) ?_
    exact k_M_multiply_JJI_20 C0 hRT x0 x2 x4 (0 : Int32) hk_x4 ls (lv_sub hl [0, 1, 2] rfl) (by exact (if_pos c1))
  · refine lv_iconst (v := 1) hx hb d_M_multiply_JJI_15 (by decide) ?_
    refine lv_goto (tgt := 20) hx hb d_M_multiply_JJI_16 (by decide) ?_
    exact k_M_multiply_JJI_20 C0 hRT x0 x2 x4 (1 : Int32) hk_x4 ls (lv_sub hl [0, 1, 2] rfl) (by exact (if_neg c1))
-- ===== MotionLabModel.multiply(JJ)J
abbrev y_M_multiply_JJ : MethodName := ⟨"MotionLabModel", "multiply", "(JJ)J"⟩
abbrev b_M_multiply_JJ : ByteArray := prog_6_method_28_code
theorem d_M_multiply_JJ_0 : decode b_M_multiply_JJ 0 = .ok (.lload_n 0, 1) := by decide +kernel
theorem d_M_multiply_JJ_1 : decode b_M_multiply_JJ 1 = .ok (.lload_n 2, 1) := by decide +kernel
theorem d_M_multiply_JJ_2 : decode b_M_multiply_JJ 2 = .ok (.iconst 0, 1) := by decide +kernel
theorem d_M_multiply_JJ_3 : decode b_M_multiply_JJ 3 = .ok (.invokestatic 110, 3) := by decide +kernel
theorem d_M_multiply_JJ_6 : decode b_M_multiply_JJ 6 = .ok (.lreturn, 1) := by decide +kernel
def f_M_multiply_JJ (x0 : Int64) (x2 : Int64) : Int64 :=
  f_M_multiply_JJI x0 x2 (0 : Int32)
set_option maxHeartbeats 4000000 in
set_option maxRecDepth 100000 in
theorem c_M_multiply_JJ (l : Launch) (h : Heap) (t0 t1 t2 : Nat) (x0 : Int64) (x2 : Int64) : Met l y_M_multiply_JJ (gw y_M_multiply_JJ b_M_multiply_JJ 4 (some .long)) { frames := 5, cells := 0, slots := 0, locals := 145 } (pr_Pc [.long x0, .long x2] h t0 t1 t2) (pu_Ml (f_M_multiply_JJ x0 x2) h) 0 0 (fun _ => False) := by
  refine Met.ofW (cc := b_M_multiply_JJ) (maxL := 4) (ret := (some .long)) (by decide) rfl ?_
  intro p e s m args below meth c s₁ B hml hv
  obtain ⟨rfl, hh, hRT⟩ := hv
  subst hh
  obtain ⟨hT0, hT1, hT2⟩ := id hRT
  have hx := B.exec
  have hb := B.bytes
  have hr := B.returns
  have hts := atoms_spec (ws := (gw y_M_multiply_JJ b_M_multiply_JJ 4 (some .long))) B.pre
  have hown : s.vm.findClass "MotionLabModel" = some m.cls := findClass_of_methodNamed B.named
  have hlocks := B.notSynchronized
  have C0 : pu_C p s m _ meth c b_M_multiply_JJ 4 "MotionLabModel" (some .long) (gw y_M_multiply_JJ b_M_multiply_JJ 4 (some .long)) := ⟨hx, hb, hml, hown, hts, hr, hlocks⟩
  have hl := lv_entry ([.long x0, .long x2]) (n := 4) (Nat.le_of_ble_eq_true rfl)
  rw [lg_entry_eq]
  generalize (lg_sl ([.long x0, .long x2]) ++ List.replicate (4 - (lg_sl ([.long x0, .long x2])).length) Slot.unset).toArray = ls at hl ⊢
  have hl : lv_has ls 4 [(0, .long x0), (2, .long x2)] := hl
  refine lv_lload_n hx hb d_M_multiply_JJ_0 rfl (lv_at hl 0 rfl) ?_
  refine lv_lload_n hx hb d_M_multiply_JJ_1 rfl (lv_at hl 1 rfl) ?_
  refine lv_iconst (v := 0) hx hb d_M_multiply_JJ_2 (by decide) ?_
  refine pu_l (As := [.long x0, .long x2, .int (0 : Int32)]) (rest := []) ⟨hx, hb, hml, hown, hts⟩ (c_M_multiply_JJI l _ t0 t1 t2 x0 x2 (0 : Int32) (in_of (by decide) (by decide))) (pr_pre hRT) (gw_call (k := 3) hts tw_576 tw_577 tw_4 tw_578 (by decide +kernel) rfl rfl ⟨Nat.le_of_ble_eq_true rfl, Nat.le_of_ble_eq_true rfl⟩) rfl hl.1 rfl (Nat.le_of_ble_eq_true rfl) ⟨Nat.zero_le _, Nat.zero_le _⟩ d_M_multiply_JJ_3 ?_
  exact pu_lret hx hb hr hlocks d_M_multiply_JJ_6 (by exact Eq.symm rfl)
-- ===== MotionLabModel.turned(JI)J
abbrev y_M_turned_JI : MethodName := ⟨"MotionLabModel", "turned", "(JI)J"⟩
abbrev b_M_turned_JI : ByteArray := prog_6_method_10_code
theorem d_M_turned_JI_0 : decode b_M_turned_JI 0 = .ok (.lload_n 0, 1) := by decide +kernel
theorem d_M_turned_JI_1 : decode b_M_turned_JI 1 = .ok (.lconst 1, 1) := by decide +kernel
theorem d_M_turned_JI_2 : decode b_M_turned_JI 2 = .ok (.iload_n 2, 1) := by decide +kernel
theorem d_M_turned_JI_3 : decode b_M_turned_JI 3 = .ok (.invokestatic 1, 3) := by decide +kernel
theorem d_M_turned_JI_6 : decode b_M_turned_JI 6 = .ok (.iconst 1, 1) := by decide +kernel
theorem d_M_turned_JI_7 : decode b_M_turned_JI 7 = .ok (.isub, 1) := by decide +kernel
theorem d_M_turned_JI_8 : decode b_M_turned_JI 8 = .ok (.lshl, 1) := by decide +kernel
theorem d_M_turned_JI_9 : decode b_M_turned_JI 9 = .ok (.lxor, 1) := by decide +kernel
theorem d_M_turned_JI_10 : decode b_M_turned_JI 10 = .ok (.lreturn, 1) := by decide +kernel
def f_M_turned_JI (x0 : Int64) (x2 : Int32) : Int64 :=
  x0 ^^^ (j_shl (1 : Int64) ((f_M_wide_I x2) - (1 : Int32)))
set_option maxHeartbeats 4000000 in
set_option maxRecDepth 100000 in
theorem c_M_turned_JI (l : Launch) (h : Heap) (x0 : Int64) (x2 : Int32) : Met l y_M_turned_JI (gw y_M_turned_JI b_M_turned_JI 3 (some .long)) { frames := 1, cells := 0, slots := 0, locals := 20 } (pu_Pc [.long x0, .int x2] h) (pu_Ml (f_M_turned_JI x0 x2) h) 0 0 (fun _ => False) := by
  refine Met.ofW (cc := b_M_turned_JI) (maxL := 3) (ret := (some .long)) (by decide) rfl ?_
  intro p e s m args below meth c s₁ B hml hv
  obtain ⟨rfl, hh⟩ := hv
  subst hh
  have hx := B.exec
  have hb := B.bytes
  have hr := B.returns
  have hts := atoms_spec (ws := (gw y_M_turned_JI b_M_turned_JI 3 (some .long))) B.pre
  have hown : s.vm.findClass "MotionLabModel" = some m.cls := findClass_of_methodNamed B.named
  have hlocks := B.notSynchronized
  have C0 : pu_C p s m _ meth c b_M_turned_JI 3 "MotionLabModel" (some .long) (gw y_M_turned_JI b_M_turned_JI 3 (some .long)) := ⟨hx, hb, hml, hown, hts, hr, hlocks⟩
  have hl := lv_entry ([.long x0, .int x2]) (n := 3) (Nat.le_of_ble_eq_true rfl)
  rw [lg_entry_eq]
  generalize (lg_sl ([.long x0, .int x2]) ++ List.replicate (3 - (lg_sl ([.long x0, .int x2])).length) Slot.unset).toArray = ls at hl ⊢
  have hl : lv_has ls 3 [(0, .long x0), (2, .int x2)] := hl
  refine lv_lload_n hx hb d_M_turned_JI_0 rfl (lv_at hl 0 rfl) ?_
  refine lv_lconst (v := (1 : Int64)) hx hb d_M_turned_JI_1 (by decide) ?_
  refine lv_iload_n hx hb d_M_turned_JI_2 rfl (lv_at hl 1 rfl) ?_
  refine pu_i (As := [.int x2]) (rest := [.long (1 : Int64), .long x0]) ⟨hx, hb, hml, hown, hts⟩ (c_M_wide_I l _ x2) pu_pre (gw_call (k := 1) hts tw_504 tw_505 tw_4 tw_506 (by decide +kernel) rfl rfl ⟨Nat.le_of_ble_eq_true rfl, Nat.le_of_ble_eq_true rfl⟩) rfl hl.1 rfl (Nat.le_of_ble_eq_true rfl) ⟨Nat.zero_le _, Nat.zero_le _⟩ d_M_turned_JI_3 ?_
  refine lv_iconst (v := 1) hx hb d_M_turned_JI_6 (by decide) ?_
  refine lv_isub hx hb d_M_turned_JI_7 ?_
  refine lv_lshl (v := j_shl (1 : Int64) ((f_M_wide_I x2) - (1 : Int32))) hx hb d_M_turned_JI_8 rfl ?_
  refine lv_lxor hx hb d_M_turned_JI_9 ?_
  exact pu_lret hx hb hr hlocks d_M_turned_JI_10 (by exact Eq.symm rfl)
