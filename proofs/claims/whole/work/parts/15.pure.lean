-- ===== MotionLab$Ieee.less(JJ)Z
abbrev y_I_less_JJ : MethodName := ⟨"MotionLab$Ieee", "less", "(JJ)Z"⟩
abbrev b_I_less_JJ : ByteArray := prog_2_method_8_code
theorem d_I_less_JJ_0 : decode b_I_less_JJ 0 = .ok (.lload_n 0, 1) := by decide +kernel
theorem d_I_less_JJ_1 : decode b_I_less_JJ 1 = .ok (.invokestatic 13, 3) := by decide +kernel
theorem d_I_less_JJ_4 : decode b_I_less_JJ 4 = .ok (.ifCond .ne 26, 3) := by decide +kernel
theorem d_I_less_JJ_7 : decode b_I_less_JJ 7 = .ok (.lload_n 2, 1) := by decide +kernel
theorem d_I_less_JJ_8 : decode b_I_less_JJ 8 = .ok (.invokestatic 13, 3) := by decide +kernel
theorem d_I_less_JJ_11 : decode b_I_less_JJ 11 = .ok (.ifCond .ne 19, 3) := by decide +kernel
theorem d_I_less_JJ_14 : decode b_I_less_JJ 14 = .ok (.lload_n 0, 1) := by decide +kernel
theorem d_I_less_JJ_15 : decode b_I_less_JJ 15 = .ok (.invokestatic 25, 3) := by decide +kernel
theorem d_I_less_JJ_18 : decode b_I_less_JJ 18 = .ok (.lload_n 2, 1) := by decide +kernel
theorem d_I_less_JJ_19 : decode b_I_less_JJ 19 = .ok (.invokestatic 25, 3) := by decide +kernel
theorem d_I_less_JJ_22 : decode b_I_less_JJ 22 = .ok (.lcmp, 1) := by decide +kernel
theorem d_I_less_JJ_23 : decode b_I_less_JJ 23 = .ok (.ifCond .ge 7, 3) := by decide +kernel
theorem d_I_less_JJ_26 : decode b_I_less_JJ 26 = .ok (.iconst 1, 1) := by decide +kernel
theorem d_I_less_JJ_27 : decode b_I_less_JJ 27 = .ok (.goto 4, 3) := by decide +kernel
theorem d_I_less_JJ_30 : decode b_I_less_JJ 30 = .ok (.iconst 0, 1) := by decide +kernel
theorem d_I_less_JJ_31 : decode b_I_less_JJ 31 = .ok (.ireturn, 1) := by decide +kernel
def f_I_less_JJ (x0 : Int64) (x2 : Int64) : Int32 :=
  if (f_I_isNoNumber_J x0) = 0 then
    if (f_I_isNoNumber_J x2) = 0 then
      if 0 ≤ (lg_cmp (f_I_order_J x0) (f_I_order_J x2)) then
        (0 : Int32)
      else
        (1 : Int32)
    else
      (0 : Int32)
  else
    (0 : Int32)
set_option maxHeartbeats 4000000 in
set_option maxRecDepth 100000 in
theorem c_I_less_JJ (l : Launch) (h : Heap) (x0 : Int64) (x2 : Int64) : Met l y_I_less_JJ (gw y_I_less_JJ b_I_less_JJ 4 (some .boolean)) { frames := 1, cells := 0, slots := 0, locals := 21 } (pu_Pc [.long x0, .long x2] h) (pu_Mi (f_I_less_JJ x0 x2) h) 0 0 (fun _ => False) := by
  refine Met.ofW (cc := b_I_less_JJ) (maxL := 4) (ret := (some .boolean)) (by decide) rfl ?_
  intro p e s m args below meth c s₁ B hml hv
  obtain ⟨rfl, hh⟩ := hv
  subst hh
  have hx := B.exec
  have hb := B.bytes
  have hr := B.returns
  have hts := atoms_spec (ws := (gw y_I_less_JJ b_I_less_JJ 4 (some .boolean))) B.pre
  have hown : s.vm.findClass "MotionLab$Ieee" = some m.cls := findClass_of_methodNamed B.named
  have hlocks := B.notSynchronized
  have C0 : pu_C p s m _ meth c b_I_less_JJ 4 "MotionLab$Ieee" (some .boolean) (gw y_I_less_JJ b_I_less_JJ 4 (some .boolean)) := ⟨hx, hb, hml, hown, hts, hr, hlocks⟩
  have hl := lv_entry ([.long x0, .long x2]) (n := 4) (Nat.le_of_ble_eq_true rfl)
  rw [lg_entry_eq]
  generalize (lg_sl ([.long x0, .long x2]) ++ List.replicate (4 - (lg_sl ([.long x0, .long x2])).length) Slot.unset).toArray = ls at hl ⊢
  have hl : lv_has ls 4 [(0, .long x0), (2, .long x2)] := hl
  refine lv_lload_n hx hb d_I_less_JJ_0 rfl (lv_at hl 0 rfl) ?_
  refine pu_i (As := [.long x0]) (rest := []) ⟨hx, hb, hml, hown, hts⟩ (c_I_isNoNumber_J l _ x0) pu_pre (gw_call (k := 1) hts tw_89 tw_90 tw_5 tw_91 (by decide +kernel) rfl rfl ⟨Nat.le_of_ble_eq_true rfl, Nat.le_of_ble_eq_true rfl⟩) rfl hl.1 rfl (Nat.le_of_ble_eq_true rfl) ⟨Nat.zero_le _, Nat.zero_le _⟩ d_I_less_JJ_1 ?_
  refine lv_if_ne (tgt := 30) hx hb d_I_less_JJ_4 (by decide) (fun c1 => ?_) (fun c1 => ?_)
  · refine lv_iconst (v := 0) hx hb d_I_less_JJ_30 (by decide) ?_
    exact pu_zret hx hb hr rfl hlocks d_I_less_JJ_31 (by exact Eq.symm (if_neg c1))
  · refine lv_lload_n hx hb d_I_less_JJ_7 rfl (lv_at hl 1 rfl) ?_
    refine pu_i (As := [.long x2]) (rest := []) ⟨hx, hb, hml, hown, hts⟩ (c_I_isNoNumber_J l _ x2) pu_pre (gw_call (k := 1) hts tw_89 tw_90 tw_5 tw_91 (by decide +kernel) rfl rfl ⟨Nat.le_of_ble_eq_true rfl, Nat.le_of_ble_eq_true rfl⟩) rfl hl.1 rfl (Nat.le_of_ble_eq_true rfl) ⟨Nat.zero_le _, Nat.zero_le _⟩ d_I_less_JJ_8 ?_
    refine lv_if_ne (tgt := 30) hx hb d_I_less_JJ_11 (by decide) (fun c2 => ?_) (fun c2 => ?_)
    · refine lv_iconst (v := 0) hx hb d_I_less_JJ_30 (by decide) ?_
      exact pu_zret hx hb hr rfl hlocks d_I_less_JJ_31 (by exact Eq.symm (Eq.trans (if_pos c1) (if_neg c2)))
    · refine lv_lload_n hx hb d_I_less_JJ_14 rfl (lv_at hl 0 rfl) ?_
      refine pu_l (As := [.long x0]) (rest := []) ⟨hx, hb, hml, hown, hts⟩ (c_I_order_J l _ x0) pu_pre (gw_call (k := 1) hts tw_233 tw_234 tw_5 tw_235 (by decide +kernel) rfl rfl ⟨Nat.le_of_ble_eq_true rfl, Nat.le_of_ble_eq_true rfl⟩) rfl hl.1 rfl (Nat.le_of_ble_eq_true rfl) ⟨Nat.zero_le _, Nat.zero_le _⟩ d_I_less_JJ_15 ?_
      refine lv_lload_n hx hb d_I_less_JJ_18 rfl (lv_at hl 1 rfl) ?_
      refine pu_l (As := [.long x2]) (rest := [.long (f_I_order_J x0)]) ⟨hx, hb, hml, hown, hts⟩ (c_I_order_J l _ x2) pu_pre (gw_call (k := 1) hts tw_233 tw_234 tw_5 tw_235 (by decide +kernel) rfl rfl ⟨Nat.le_of_ble_eq_true rfl, Nat.le_of_ble_eq_true rfl⟩) rfl hl.1 rfl (Nat.le_of_ble_eq_true rfl) ⟨Nat.zero_le _, Nat.zero_le _⟩ d_I_less_JJ_19 ?_
      refine W.lcmp hx hb d_I_less_JJ_22 ?_
      refine lv_if_ge (tgt := 30) hx hb d_I_less_JJ_23 (by decide) (fun c3 => ?_) (fun c3 => ?_)
      · refine lv_iconst (v := 0) hx hb d_I_less_JJ_30 (by decide) ?_
        exact pu_zret hx hb hr rfl hlocks d_I_less_JJ_31 (by exact Eq.symm (Eq.trans (if_pos c1) (Eq.trans (if_pos c2) (if_pos c3))))
      · refine lv_iconst (v := 1) hx hb d_I_less_JJ_26 (by decide) ?_
        refine lv_goto (tgt := 31) hx hb d_I_less_JJ_27 (by decide) ?_
        exact pu_zret hx hb hr rfl hlocks d_I_less_JJ_31 (by exact Eq.symm (Eq.trans (if_pos c1) (Eq.trans (if_pos c2) (if_neg c3))))
-- ===== MotionLab$Ieee.negated(J)J
abbrev y_I_negated_J : MethodName := ⟨"MotionLab$Ieee", "negated", "(J)J"⟩
abbrev b_I_negated_J : ByteArray := prog_2_method_7_code
theorem d_I_negated_J_0 : decode b_I_negated_J 0 = .ok (.lload_n 0, 1) := by decide +kernel
theorem d_I_negated_J_1 : decode b_I_negated_J 1 = .ok (.ldc2_w 19, 3) := by decide +kernel
theorem d_I_negated_J_4 : decode b_I_negated_J 4 = .ok (.lxor, 1) := by decide +kernel
theorem d_I_negated_J_5 : decode b_I_negated_J 5 = .ok (.invokestatic 21, 3) := by decide +kernel
theorem d_I_negated_J_8 : decode b_I_negated_J 8 = .ok (.lreturn, 1) := by decide +kernel
def f_I_negated_J (x0 : Int64) : Int64 :=
  f_I_told_J (x0 ^^^ (-9223372036854775808 : Int64))
set_option maxHeartbeats 4000000 in
set_option maxRecDepth 100000 in
theorem c_I_negated_J (l : Launch) (h : Heap) (x0 : Int64) : Met l y_I_negated_J (gw y_I_negated_J b_I_negated_J 2 (some .long)) { frames := 2, cells := 0, slots := 0, locals := 42 } (pu_Pc [.long x0] h) (pu_Ml (f_I_negated_J x0) h) 0 0 (fun _ => False) := by
  refine Met.ofW (cc := b_I_negated_J) (maxL := 2) (ret := (some .long)) (by decide) rfl ?_
  intro p e s m args below meth c s₁ B hml hv
  obtain ⟨rfl, hh⟩ := hv
  subst hh
  have hx := B.exec
  have hb := B.bytes
  have hr := B.returns
  have hts := atoms_spec (ws := (gw y_I_negated_J b_I_negated_J 2 (some .long))) B.pre
  have hown : s.vm.findClass "MotionLab$Ieee" = some m.cls := findClass_of_methodNamed B.named
  have hlocks := B.notSynchronized
  have C0 : pu_C p s m _ meth c b_I_negated_J 2 "MotionLab$Ieee" (some .long) (gw y_I_negated_J b_I_negated_J 2 (some .long)) := ⟨hx, hb, hml, hown, hts, hr, hlocks⟩
  have hl := lv_entry ([.long x0]) (n := 2) (Nat.le_of_ble_eq_true rfl)
  rw [lg_entry_eq]
  generalize (lg_sl ([.long x0]) ++ List.replicate (2 - (lg_sl ([.long x0])).length) Slot.unset).toArray = ls at hl ⊢
  have hl : lv_has ls 2 [(0, .long x0)] := hl
  refine lv_lload_n hx hb d_I_negated_J_0 rfl (lv_at hl 0 rfl) ?_
  refine lv_ldc2 (v := (-9223372036854775808 : Int64)) hx hb hown (hts _ (gm tw_93)) d_I_negated_J_1 ?_
  refine lv_lxor hx hb d_I_negated_J_4 ?_
  refine pu_l (As := [.long (x0 ^^^ (-9223372036854775808 : Int64))]) (rest := []) ⟨hx, hb, hml, hown, hts⟩ (c_I_told_J l _ (x0 ^^^ (-9223372036854775808 : Int64))) pu_pre (gw_call (k := 1) hts tw_86 tw_87 tw_5 tw_88 (by decide +kernel) rfl rfl ⟨Nat.le_of_ble_eq_true rfl, Nat.le_of_ble_eq_true rfl⟩) rfl hl.1 rfl (Nat.le_of_ble_eq_true rfl) ⟨Nat.zero_le _, Nat.zero_le _⟩ d_I_negated_J_5 ?_
  exact pu_lret hx hb hr hlocks d_I_negated_J_8 (by exact Eq.symm rfl)
-- ===== MotionLab.isStore(I)Z
abbrev y_L_isStore_I : MethodName := ⟨"MotionLab", "isStore", "(I)Z"⟩
abbrev b_L_isStore_I : ByteArray := prog_1_method_19_code
theorem d_L_isStore_I_0 : decode b_L_isStore_I 0 = .ok (.iload_n 0, 1) := by decide +kernel
theorem d_L_isStore_I_1 : decode b_L_isStore_I 1 = .ok (.ifCond .lt 13, 3) := by decide +kernel
theorem d_L_isStore_I_4 : decode b_L_isStore_I 4 = .ok (.iload_n 0, 1) := by decide +kernel
theorem d_L_isStore_I_5 : decode b_L_isStore_I 5 = .ok (.bipush 8, 2) := by decide +kernel
theorem d_L_isStore_I_7 : decode b_L_isStore_I 7 = .ok (.if_icmp .ge 7, 3) := by decide +kernel
theorem d_L_isStore_I_10 : decode b_L_isStore_I 10 = .ok (.iconst 1, 1) := by decide +kernel
theorem d_L_isStore_I_11 : decode b_L_isStore_I 11 = .ok (.goto 4, 3) := by decide +kernel
theorem d_L_isStore_I_14 : decode b_L_isStore_I 14 = .ok (.iconst 0, 1) := by decide +kernel
theorem d_L_isStore_I_15 : decode b_L_isStore_I 15 = .ok (.ireturn, 1) := by decide +kernel
def f_L_isStore_I (x0 : Int32) : Int32 :=
  if x0 < 0 then
    (0 : Int32)
  else
    if (8 : Int32) ≤ x0 then
      (0 : Int32)
    else
      (1 : Int32)
set_option maxHeartbeats 4000000 in
set_option maxRecDepth 100000 in
theorem c_L_isStore_I (l : Launch) (h : Heap) (x0 : Int32) : Met l y_L_isStore_I (gw y_L_isStore_I b_L_isStore_I 1 (some .boolean)) { frames := 0, cells := 0, slots := 0, locals := 0 } (pu_Pc [.int x0] h) (pu_Mi (f_L_isStore_I x0) h) 0 0 (fun _ => False) := by
  refine Met.ofW (cc := b_L_isStore_I) (maxL := 1) (ret := (some .boolean)) (by decide) rfl ?_
  intro p e s m args below meth c s₁ B hml hv
  obtain ⟨rfl, hh⟩ := hv
  subst hh
  have hx := B.exec
  have hb := B.bytes
  have hr := B.returns
  have hts := atoms_spec (ws := (gw y_L_isStore_I b_L_isStore_I 1 (some .boolean))) B.pre
  have hown : s.vm.findClass "MotionLab" = some m.cls := findClass_of_methodNamed B.named
  have hlocks := B.notSynchronized
  have C0 : pu_C p s m _ meth c b_L_isStore_I 1 "MotionLab" (some .boolean) (gw y_L_isStore_I b_L_isStore_I 1 (some .boolean)) := ⟨hx, hb, hml, hown, hts, hr, hlocks⟩
  have hl := lv_entry ([.int x0]) (n := 1) (Nat.le_of_ble_eq_true rfl)
  rw [lg_entry_eq]
  generalize (lg_sl ([.int x0]) ++ List.replicate (1 - (lg_sl ([.int x0])).length) Slot.unset).toArray = ls at hl ⊢
  have hl : lv_has ls 1 [(0, .int x0)] := hl
  refine lv_iload_n hx hb d_L_isStore_I_0 rfl (lv_at hl 0 rfl) ?_
  refine lv_if_lt (tgt := 14) hx hb d_L_isStore_I_1 (by decide) (fun c1 => ?_) (fun c1 => ?_)
  · refine lv_iconst (v := 0) hx hb d_L_isStore_I_14 (by decide) ?_
    exact pu_zret hx hb hr rfl hlocks d_L_isStore_I_15 (by exact Eq.symm (if_pos c1))
  · refine lv_iload_n hx hb d_L_isStore_I_4 rfl (lv_at hl 0 rfl) ?_
    refine lv_bipush (v := (8 : Int32)) hx hb d_L_isStore_I_5 (by decide) ?_
    refine lv_icmp_ge (tgt := 14) hx hb d_L_isStore_I_7 (by decide) (fun c2 => ?_) (fun c2 => ?_)
    · refine lv_iconst (v := 0) hx hb d_L_isStore_I_14 (by decide) ?_
      exact pu_zret hx hb hr rfl hlocks d_L_isStore_I_15 (by exact Eq.symm (Eq.trans (if_neg c1) (if_pos c2)))
    · refine lv_iconst (v := 1) hx hb d_L_isStore_I_10 (by decide) ?_
      refine lv_goto (tgt := 15) hx hb d_L_isStore_I_11 (by decide) ?_
      exact pu_zret hx hb hr rfl hlocks d_L_isStore_I_15 (by exact Eq.symm (Eq.trans (if_neg c1) (if_neg c2)))
-- ===== java/lang/Math.min(II)I
abbrev y_jM_min_II : MethodName := ⟨"java/lang/Math", "min", "(II)I"⟩
abbrev b_jM_min_II : ByteArray := prog_9_method_69_code
theorem d_jM_min_II_0 : decode b_jM_min_II 0 = .ok (.iload_n 0, 1) := by decide +kernel
theorem d_jM_min_II_1 : decode b_jM_min_II 1 = .ok (.iload_n 1, 1) := by decide +kernel
theorem d_jM_min_II_2 : decode b_jM_min_II 2 = .ok (.if_icmp .gt 7, 3) := by decide +kernel
theorem d_jM_min_II_5 : decode b_jM_min_II 5 = .ok (.iload_n 0, 1) := by decide +kernel
theorem d_jM_min_II_6 : decode b_jM_min_II 6 = .ok (.goto 4, 3) := by decide +kernel
theorem d_jM_min_II_9 : decode b_jM_min_II 9 = .ok (.iload_n 1, 1) := by decide +kernel
theorem d_jM_min_II_10 : decode b_jM_min_II 10 = .ok (.ireturn, 1) := by decide +kernel
def f_jM_min_II (x0 : Int32) (x1 : Int32) : Int32 :=
  if x1 < x0 then
    x1
  else
    x0
set_option maxHeartbeats 4000000 in
set_option maxRecDepth 100000 in
theorem c_jM_min_II (l : Launch) (h : Heap) (x0 : Int32) (x1 : Int32) : Met l y_jM_min_II (gw y_jM_min_II b_jM_min_II 2 (some .int)) { frames := 0, cells := 0, slots := 0, locals := 0 } (pu_Pc [.int x0, .int x1] h) (pu_Mi (f_jM_min_II x0 x1) h) 0 0 (fun _ => False) := by
  refine va_MetF (cc := b_jM_min_II) (maxL := 2) (ret := (some .int)) (by decide +kernel) rfl ?_
  intro p e s m args below meth c s₁ B hml hv
  obtain ⟨rfl, hh⟩ := hv
  subst hh
  have hx := B.exec
  have hb := B.bytes
  have hr := B.returns
  have hts := atoms_spec (ws := (gw y_jM_min_II b_jM_min_II 2 (some .int))) B.pre
  have hown : s.vm.findClass "java/lang/Math" = some m.cls := findClass_of_methodNamed B.named
  have hlocks := B.notSynchronized
  have C0 : pu_C p s m _ meth c b_jM_min_II 2 "java/lang/Math" (some .int) (gw y_jM_min_II b_jM_min_II 2 (some .int)) := ⟨hx, hb, hml, hown, hts, hr, hlocks⟩
  have hl := lv_entry ([.int x0, .int x1]) (n := 2) (Nat.le_of_ble_eq_true rfl)
  rw [lg_entry_eq]
  generalize (lg_sl ([.int x0, .int x1]) ++ List.replicate (2 - (lg_sl ([.int x0, .int x1])).length) Slot.unset).toArray = ls at hl ⊢
  have hl : lv_has ls 2 [(0, .int x0), (1, .int x1)] := hl
  refine lv_iload_n hx hb d_jM_min_II_0 rfl (lv_at hl 0 rfl) ?_
  refine lv_iload_n hx hb d_jM_min_II_1 rfl (lv_at hl 1 rfl) ?_
  refine lv_icmp_gt (tgt := 9) hx hb d_jM_min_II_2 (by decide) (fun c1 => ?_) (fun c1 => ?_)
  · refine lv_iload_n hx hb d_jM_min_II_9 rfl (lv_at hl 1 rfl) ?_
    exact pu_iret hx hb hr hlocks d_jM_min_II_10 (by exact Eq.symm (if_pos c1))
  · refine lv_iload_n hx hb d_jM_min_II_5 rfl (lv_at hl 0 rfl) ?_
    refine lv_goto (tgt := 10) hx hb d_jM_min_II_6 (by decide) ?_
    exact pu_iret hx hb hr hlocks d_jM_min_II_10 (by exact Eq.symm (if_neg c1))
-- ===== MotionLab$Ieee.remainder(JJ)J
abbrev y_I_remainder_JJ : MethodName := ⟨"MotionLab$Ieee", "remainder", "(JJ)J"⟩
abbrev b_I_remainder_JJ : ByteArray := prog_2_method_21_code
theorem d_I_remainder_JJ_0 : decode b_I_remainder_JJ 0 = .ok (.lload_n 2, 1) := by decide +kernel
theorem d_I_remainder_JJ_1 : decode b_I_remainder_JJ 1 = .ok (.invokestatic 45, 3) := by decide +kernel
theorem d_I_remainder_JJ_4 : decode b_I_remainder_JJ 4 = .ok (.lstore 4, 2) := by decide +kernel
theorem d_I_remainder_JJ_6 : decode b_I_remainder_JJ 6 = .ok (.lload_n 2, 1) := by decide +kernel
theorem d_I_remainder_JJ_7 : decode b_I_remainder_JJ 7 = .ok (.invokestatic 13, 3) := by decide +kernel
theorem d_I_remainder_JJ_10 : decode b_I_remainder_JJ 10 = .ok (.ifCond .ne 17, 3) := by decide +kernel
theorem d_I_remainder_JJ_13 : decode b_I_remainder_JJ 13 = .ok (.lload_n 0, 1) := by decide +kernel
theorem d_I_remainder_JJ_14 : decode b_I_remainder_JJ 14 = .ok (.invokestatic 35, 3) := by decide +kernel
theorem d_I_remainder_JJ_17 : decode b_I_remainder_JJ 17 = .ok (.ifCond .eq 10, 3) := by decide +kernel
theorem d_I_remainder_JJ_20 : decode b_I_remainder_JJ 20 = .ok (.lload 4, 2) := by decide +kernel
theorem d_I_remainder_JJ_22 : decode b_I_remainder_JJ 22 = .ok (.lconst 0, 1) := by decide +kernel
theorem d_I_remainder_JJ_23 : decode b_I_remainder_JJ 23 = .ok (.lcmp, 1) := by decide +kernel
theorem d_I_remainder_JJ_24 : decode b_I_remainder_JJ 24 = .ok (.ifCond .ne 7, 3) := by decide +kernel
theorem d_I_remainder_JJ_27 : decode b_I_remainder_JJ 27 = .ok (.ldc2_w 17, 3) := by decide +kernel
theorem d_I_remainder_JJ_30 : decode b_I_remainder_JJ 30 = .ok (.lreturn, 1) := by decide +kernel
theorem d_I_remainder_JJ_31 : decode b_I_remainder_JJ 31 = .ok (.lload_n 0, 1) := by decide +kernel
theorem d_I_remainder_JJ_32 : decode b_I_remainder_JJ 32 = .ok (.ldc2_w 9, 3) := by decide +kernel
theorem d_I_remainder_JJ_35 : decode b_I_remainder_JJ 35 = .ok (.land, 1) := by decide +kernel
theorem d_I_remainder_JJ_36 : decode b_I_remainder_JJ 36 = .ok (.lload_n 2, 1) := by decide +kernel
theorem d_I_remainder_JJ_37 : decode b_I_remainder_JJ 37 = .ok (.ldc2_w 9, 3) := by decide +kernel
theorem d_I_remainder_JJ_40 : decode b_I_remainder_JJ 40 = .ok (.land, 1) := by decide +kernel
theorem d_I_remainder_JJ_41 : decode b_I_remainder_JJ 41 = .ok (.lcmp, 1) := by decide +kernel
theorem d_I_remainder_JJ_42 : decode b_I_remainder_JJ 42 = .ok (.ifCond .ge 5, 3) := by decide +kernel
theorem d_I_remainder_JJ_45 : decode b_I_remainder_JJ 45 = .ok (.lload_n 0, 1) := by decide +kernel
theorem d_I_remainder_JJ_46 : decode b_I_remainder_JJ 46 = .ok (.lreturn, 1) := by decide +kernel
theorem d_I_remainder_JJ_47 : decode b_I_remainder_JJ 47 = .ok (.lload_n 0, 1) := by decide +kernel
theorem d_I_remainder_JJ_48 : decode b_I_remainder_JJ 48 = .ok (.invokestatic 45, 3) := by decide +kernel
theorem d_I_remainder_JJ_51 : decode b_I_remainder_JJ 51 = .ok (.lload 4, 2) := by decide +kernel
theorem d_I_remainder_JJ_53 : decode b_I_remainder_JJ 53 = .ok (.lrem, 1) := by decide +kernel
theorem d_I_remainder_JJ_54 : decode b_I_remainder_JJ 54 = .ok (.lstore 6, 2) := by decide +kernel
theorem d_I_remainder_JJ_56 : decode b_I_remainder_JJ 56 = .ok (.lload_n 0, 1) := by decide +kernel
theorem d_I_remainder_JJ_57 : decode b_I_remainder_JJ 57 = .ok (.invokestatic 41, 3) := by decide +kernel
theorem d_I_remainder_JJ_60 : decode b_I_remainder_JJ 60 = .ok (.lload_n 2, 1) := by decide +kernel
theorem d_I_remainder_JJ_61 : decode b_I_remainder_JJ 61 = .ok (.invokestatic 41, 3) := by decide +kernel
theorem d_I_remainder_JJ_64 : decode b_I_remainder_JJ 64 = .ok (.isub, 1) := by decide +kernel
theorem d_I_remainder_JJ_65 : decode b_I_remainder_JJ 65 = .ok (.istore 8, 2) := by decide +kernel
theorem d_I_remainder_JJ_67 : decode b_I_remainder_JJ 67 = .ok (.iload 8, 2) := by decide +kernel
theorem d_I_remainder_JJ_69 : decode b_I_remainder_JJ 69 = .ok (.ifCond .le 24, 3) := by decide +kernel
theorem d_I_remainder_JJ_72 : decode b_I_remainder_JJ 72 = .ok (.lload 6, 2) := by decide +kernel
theorem d_I_remainder_JJ_74 : decode b_I_remainder_JJ 74 = .ok (.iload 8, 2) := by decide +kernel
theorem d_I_remainder_JJ_76 : decode b_I_remainder_JJ 76 = .ok (.bipush 10, 2) := by decide +kernel
theorem d_I_remainder_JJ_78 : decode b_I_remainder_JJ 78 = .ok (.invokestatic 81, 3) := by decide +kernel
theorem d_I_remainder_JJ_81 : decode b_I_remainder_JJ 81 = .ok (.lshl, 1) := by decide +kernel
theorem d_I_remainder_JJ_82 : decode b_I_remainder_JJ 82 = .ok (.lload 4, 2) := by decide +kernel
theorem d_I_remainder_JJ_84 : decode b_I_remainder_JJ 84 = .ok (.lrem, 1) := by decide +kernel
theorem d_I_remainder_JJ_85 : decode b_I_remainder_JJ 85 = .ok (.lstore 6, 2) := by decide +kernel
theorem d_I_remainder_JJ_87 : decode b_I_remainder_JJ 87 = .ok (.iinc 8 (-10), 3) := by decide +kernel
theorem d_I_remainder_JJ_90 : decode b_I_remainder_JJ 90 = .ok (.goto (-23), 3) := by decide +kernel
theorem d_I_remainder_JJ_93 : decode b_I_remainder_JJ 93 = .ok (.lload_n 0, 1) := by decide +kernel
theorem d_I_remainder_JJ_94 : decode b_I_remainder_JJ 94 = .ok (.ldc2_w 19, 3) := by decide +kernel
theorem d_I_remainder_JJ_97 : decode b_I_remainder_JJ 97 = .ok (.land, 1) := by decide +kernel
theorem d_I_remainder_JJ_98 : decode b_I_remainder_JJ 98 = .ok (.lload_n 2, 1) := by decide +kernel
theorem d_I_remainder_JJ_99 : decode b_I_remainder_JJ 99 = .ok (.invokestatic 41, 3) := by decide +kernel
theorem d_I_remainder_JJ_102 : decode b_I_remainder_JJ 102 = .ok (.lload 6, 2) := by decide +kernel
theorem d_I_remainder_JJ_104 : decode b_I_remainder_JJ 104 = .ok (.invokestatic 52, 3) := by decide +kernel
theorem d_I_remainder_JJ_107 : decode b_I_remainder_JJ 107 = .ok (.lreturn, 1) := by decide +kernel
def f_I_remainder_JJ_67 : Nat → Int64 → Int64 → Int64 → Int64 → Int32 → Int64
  | 0, _, _, _, _, _ => 0
  | n + 1, x0, x2, x4, x6, x8 =>
    if x8 ≤ 0 then
      f_I_nearest_JIJ (x0 &&& (-9223372036854775808 : Int64)) (f_I_power_J x2) x6
    else
      let v2 : Int64 := (j_shl x6 (f_jM_min_II x8 (10 : Int32))) - (j_shl x6 (f_jM_min_II x8 (10 : Int32))) / x4 * x4
      let v3 : Int32 := x8 + (-10)
      f_I_remainder_JJ_67 n x0 x2 x4 v2 v3
set_option maxHeartbeats 4000000 in
set_option maxRecDepth 100000 in
theorem k_I_remainder_JJ_67 {p : Program} {l : Launch} {e : Env} {s : State} {m : MethodId} {args : Array Value} {below : List Frame} {meth : Method} {c : Code} (C0 : pu_C p s m args meth c b_I_remainder_JJ 9 "MotionLab$Ieee" (some .long) (gw y_I_remainder_JJ b_I_remainder_JJ 9 (some .long))) (n : Nat) : ∀ (x0 : Int64) (x2 : Int64) (x4 : Int64) (x6 : Int64) (x8 : Int32) (hz_x4 : ¬ x4 = 0) (hinv : x8.toNatClampNeg < n) (ls : Array Slot) (hl : lv_has ls 9 [(0, .long x0), (2, .long x2), (4, .long x4), (6, .long x6), (8, .int x8)]) {w : Int64} (hw : w = f_I_remainder_JJ_67 n x0 x2 x4 x6 x8), W p l e (headSpec (gw y_I_remainder_JJ b_I_remainder_JJ 9 (some .long)) ({ frames := 3, cells := 0, slots := 0, locals := 69 } : Room)).room s m args below meth c s.heap [] 0 0 (pu_Ql w below args s) (F0 m 67 ls []) := by
  obtain ⟨hx, hb, hml, hown, hts, hr, hlocks⟩ := id C0
  induction n with
  | zero => intro x0 x2 x4 x6 x8 hz_x4 hinv ls hl w hw; exact absurd hinv (Nat.not_lt_zero _)
  | succ n ih =>
    intro x0 x2 x4 x6 x8 hz_x4 hinv ls hl w hw
    refine lv_iload hx hb d_I_remainder_JJ_67 (lv_at hl 4 rfl) ?_
    refine lv_if_le (tgt := 93) hx hb d_I_remainder_JJ_69 (by decide) (fun c1 => ?_) (fun c1 => ?_)
    · refine lv_lload_n hx hb d_I_remainder_JJ_93 rfl (lv_at hl 0 rfl) ?_
      refine lv_ldc2 (v := (-9223372036854775808 : Int64)) hx hb hown (hts _ (gm tw_93)) d_I_remainder_JJ_94 ?_
      refine lv_land hx hb d_I_remainder_JJ_97 ?_
      refine lv_lload_n hx hb d_I_remainder_JJ_98 rfl (lv_at hl 1 rfl) ?_
      refine pu_i (As := [.long x2]) (rest := [.long (x0 &&& (-9223372036854775808 : Int64))]) ⟨hx, hb, hml, hown, hts⟩ (c_I_power_J l _ x2) pu_pre (gw_call (k := 1) hts tw_94 tw_95 tw_5 tw_96 (by decide +kernel) rfl rfl ⟨Nat.le_of_ble_eq_true rfl, Nat.le_of_ble_eq_true rfl⟩) rfl hl.1 rfl (Nat.le_of_ble_eq_true rfl) ⟨Nat.zero_le _, Nat.zero_le _⟩ d_I_remainder_JJ_99 ?_
      refine lv_lload hx hb d_I_remainder_JJ_102 (lv_at hl 3 rfl) ?_
      refine pu_l (As := [.long (x0 &&& (-9223372036854775808 : Int64)), .int (f_I_power_J x2), .long x6]) (rest := []) ⟨hx, hb, hml, hown, hts⟩ (c_I_nearest_JIJ l _ (x0 &&& (-9223372036854775808 : Int64)) (f_I_power_J x2) x6) pu_pre (gw_call (k := 3) hts tw_115 tw_116 tw_5 tw_117 (by decide +kernel) rfl rfl ⟨Nat.le_of_ble_eq_true rfl, Nat.le_of_ble_eq_true rfl⟩) rfl hl.1 rfl (Nat.le_of_ble_eq_true rfl) ⟨Nat.zero_le _, Nat.zero_le _⟩ d_I_remainder_JJ_104 ?_
      exact pu_lret hx hb hr hlocks d_I_remainder_JJ_107 (by exact Eq.symm (hw.trans (if_pos c1)))
    · refine lv_lload hx hb d_I_remainder_JJ_72 (lv_at hl 3 rfl) ?_
      refine lv_iload hx hb d_I_remainder_JJ_74 (lv_at hl 4 rfl) ?_
      refine lv_bipush (v := (10 : Int32)) hx hb d_I_remainder_JJ_76 (by decide) ?_
      refine pu_i (As := [.int x8, .int (10 : Int32)]) (rest := [.long x6]) ⟨hx, hb, hml, hown, hts⟩ (c_jM_min_II l _ x8 (10 : Int32)) pu_pre (gw_call (k := 2) hts tw_308 tw_309 tw_6 tw_310 (by decide +kernel) rfl rfl ⟨Nat.le_of_ble_eq_true rfl, Nat.le_of_ble_eq_true rfl⟩) rfl hl.1 rfl (Nat.le_of_ble_eq_true rfl) ⟨Nat.zero_le _, Nat.zero_le _⟩ d_I_remainder_JJ_78 ?_
      refine lv_lshl (v := j_shl x6 (f_jM_min_II x8 (10 : Int32))) hx hb d_I_remainder_JJ_81 rfl ?_
      refine lv_lload hx hb d_I_remainder_JJ_82 (lv_at hl 2 rfl) ?_
      refine lv_lrem hx hb d_I_remainder_JJ_84 hz_x4 ?_
      refine lv_topl (fun v2 e2 => ?_)
      refine lv_lstore (lv' := [(6, .long v2), (0, .long x0), (2, .long x2), (4, .long x4), (8, .int x8)]) hx hb d_I_remainder_JJ_85 hl (by decide) rfl (fun ls hl => ?_)
      obtain ⟨v3, e3⟩ : ∃ y : Int32, y = x8 + (-10) := ⟨_, rfl⟩
      refine lv_iinc (v := v3) (lv' := [(8, .int v3), (6, .long v2), (0, .long x0), (2, .long x2), (4, .long x4)]) hx hb d_I_remainder_JJ_87 hl (k := 4) rfl (by rw [e3]; rfl) (by decide) rfl (fun ls hl => ?_)
      refine lv_goto (tgt := 67) hx hb d_I_remainder_JJ_90 (by decide) ?_
      exact ih x0 x2 x4 v2 v3 hz_x4 (by rw [e3]; exact fl_dn hinv c1) ls (lv_sub hl [2, 3, 4, 1, 0] rfl) (by have qe2 := e2.symm; have qe3 := e3.symm; subst qe2 qe3; exact (hw.trans (if_neg c1)))
def f_I_remainder_JJ (x0 : Int64) (x2 : Int64) : Int64 :=
  let v1 : Int64 := f_I_significand_J x2
  if (f_I_isNoNumber_J x2) = 0 then
    if (f_I_isFinite_J x0) = 0 then
      (9221120237041090560 : Int64)
    else
      if (lg_cmp v1 (0 : Int64)) = 0 then
        (9221120237041090560 : Int64)
      else
        if 0 ≤ (lg_cmp (x0 &&& (9223372036854775807 : Int64)) (x2 &&& (9223372036854775807 : Int64))) then
          let v6 : Int64 := (f_I_significand_J x0) - (f_I_significand_J x0) / v1 * v1
          let v7 : Int32 := (f_I_power_J x0) - (f_I_power_J x2)
          f_I_remainder_JJ_67 (v7.toNatClampNeg + 1) x0 x2 v1 v6 v7
        else
          x0
  else
    (9221120237041090560 : Int64)
set_option maxHeartbeats 4000000 in
set_option maxRecDepth 100000 in
theorem c_I_remainder_JJ (l : Launch) (h : Heap) (x0 : Int64) (x2 : Int64) : Met l y_I_remainder_JJ (gw y_I_remainder_JJ b_I_remainder_JJ 9 (some .long)) { frames := 3, cells := 0, slots := 0, locals := 69 } (pu_Pc [.long x0, .long x2] h) (pu_Ml (f_I_remainder_JJ x0 x2) h) 0 0 (fun _ => False) := by
  refine Met.ofW (cc := b_I_remainder_JJ) (maxL := 9) (ret := (some .long)) (by decide) rfl ?_
  intro p e s m args below meth c s₁ B hml hv
  obtain ⟨rfl, hh⟩ := hv
  subst hh
  have hx := B.exec
  have hb := B.bytes
  have hr := B.returns
  have hts := atoms_spec (ws := (gw y_I_remainder_JJ b_I_remainder_JJ 9 (some .long))) B.pre
  have hown : s.vm.findClass "MotionLab$Ieee" = some m.cls := findClass_of_methodNamed B.named
  have hlocks := B.notSynchronized
  have C0 : pu_C p s m _ meth c b_I_remainder_JJ 9 "MotionLab$Ieee" (some .long) (gw y_I_remainder_JJ b_I_remainder_JJ 9 (some .long)) := ⟨hx, hb, hml, hown, hts, hr, hlocks⟩
  have hl := lv_entry ([.long x0, .long x2]) (n := 9) (Nat.le_of_ble_eq_true rfl)
  rw [lg_entry_eq]
  generalize (lg_sl ([.long x0, .long x2]) ++ List.replicate (9 - (lg_sl ([.long x0, .long x2])).length) Slot.unset).toArray = ls at hl ⊢
  have hl : lv_has ls 9 [(0, .long x0), (2, .long x2)] := hl
  refine lv_lload_n hx hb d_I_remainder_JJ_0 rfl (lv_at hl 1 rfl) ?_
  refine pu_l (As := [.long x2]) (rest := []) ⟨hx, hb, hml, hown, hts⟩ (c_I_significand_J l _ x2) pu_pre (gw_call (k := 1) hts tw_100 tw_101 tw_5 tw_102 (by decide +kernel) rfl rfl ⟨Nat.le_of_ble_eq_true rfl, Nat.le_of_ble_eq_true rfl⟩) rfl hl.1 rfl (Nat.le_of_ble_eq_true rfl) ⟨Nat.zero_le _, Nat.zero_le _⟩ d_I_remainder_JJ_1 ?_
  refine lv_topl (fun v1 e1 => ?_)
  refine lv_lstore (lv' := [(4, .long v1), (0, .long x0), (2, .long x2)]) hx hb d_I_remainder_JJ_4 hl (by decide) rfl (fun ls hl => ?_)
  refine lv_lload_n hx hb d_I_remainder_JJ_6 rfl (lv_at hl 2 rfl) ?_
  refine pu_i (As := [.long x2]) (rest := []) ⟨hx, hb, hml, hown, hts⟩ (c_I_isNoNumber_J l _ x2) pu_pre (gw_call (k := 1) hts tw_89 tw_90 tw_5 tw_91 (by decide +kernel) rfl rfl ⟨Nat.le_of_ble_eq_true rfl, Nat.le_of_ble_eq_true rfl⟩) rfl hl.1 rfl (Nat.le_of_ble_eq_true rfl) ⟨Nat.zero_le _, Nat.zero_le _⟩ d_I_remainder_JJ_7 ?_
  refine lv_if_ne (tgt := 27) hx hb d_I_remainder_JJ_10 (by decide) (fun c2 => ?_) (fun c2 => ?_)
  · refine lv_ldc2 (v := (9221120237041090560 : Int64)) hx hb hown (hts _ (gm tw_92)) d_I_remainder_JJ_27 ?_
    exact pu_lret hx hb hr hlocks d_I_remainder_JJ_30 (by have qe1 := e1.symm; subst qe1; exact Eq.symm (if_neg c2))
  · refine lv_lload_n hx hb d_I_remainder_JJ_13 rfl (lv_at hl 1 rfl) ?_
    refine pu_i (As := [.long x0]) (rest := []) ⟨hx, hb, hml, hown, hts⟩ (c_I_isFinite_J l _ x0) pu_pre (gw_call (k := 1) hts tw_81 tw_82 tw_5 tw_83 (by decide +kernel) rfl rfl ⟨Nat.le_of_ble_eq_true rfl, Nat.le_of_ble_eq_true rfl⟩) rfl hl.1 rfl (Nat.le_of_ble_eq_true rfl) ⟨Nat.zero_le _, Nat.zero_le _⟩ d_I_remainder_JJ_14 ?_
    refine lv_if_eq (tgt := 27) hx hb d_I_remainder_JJ_17 (by decide) (fun c3 => ?_) (fun c3 => ?_)
    · refine lv_ldc2 (v := (9221120237041090560 : Int64)) hx hb hown (hts _ (gm tw_92)) d_I_remainder_JJ_27 ?_
      exact pu_lret hx hb hr hlocks d_I_remainder_JJ_30 (by have qe1 := e1.symm; subst qe1; exact Eq.symm (Eq.trans (if_pos c2) (if_pos c3)))
    · refine lv_lload hx hb d_I_remainder_JJ_20 (lv_at hl 0 rfl) ?_
      refine lv_lconst (v := (0 : Int64)) hx hb d_I_remainder_JJ_22 (by decide) ?_
      refine W.lcmp hx hb d_I_remainder_JJ_23 ?_
      refine lv_if_ne (tgt := 31) hx hb d_I_remainder_JJ_24 (by decide) (fun c4 => ?_) (fun c4 => ?_)
      · refine lv_lload_n hx hb d_I_remainder_JJ_31 rfl (lv_at hl 1 rfl) ?_
        refine lv_ldc2 (v := (9223372036854775807 : Int64)) hx hb hown (hts _ (gm tw_84)) d_I_remainder_JJ_32 ?_
        refine lv_land hx hb d_I_remainder_JJ_35 ?_
        refine lv_lload_n hx hb d_I_remainder_JJ_36 rfl (lv_at hl 2 rfl) ?_
        refine lv_ldc2 (v := (9223372036854775807 : Int64)) hx hb hown (hts _ (gm tw_84)) d_I_remainder_JJ_37 ?_
        refine lv_land hx hb d_I_remainder_JJ_40 ?_
        refine W.lcmp hx hb d_I_remainder_JJ_41 ?_
        refine lv_if_ge (tgt := 47) hx hb d_I_remainder_JJ_42 (by decide) (fun c5 => ?_) (fun c5 => ?_)
        · refine lv_lload_n hx hb d_I_remainder_JJ_47 rfl (lv_at hl 1 rfl) ?_
          refine pu_l (As := [.long x0]) (rest := []) ⟨hx, hb, hml, hown, hts⟩ (c_I_significand_J l _ x0) pu_pre (gw_call (k := 1) hts tw_100 tw_101 tw_5 tw_102 (by decide +kernel) rfl rfl ⟨Nat.le_of_ble_eq_true rfl, Nat.le_of_ble_eq_true rfl⟩) rfl hl.1 rfl (Nat.le_of_ble_eq_true rfl) ⟨Nat.zero_le _, Nat.zero_le _⟩ d_I_remainder_JJ_48 ?_
          refine lv_lload hx hb d_I_remainder_JJ_51 (lv_at hl 0 rfl) ?_
          refine lv_lrem hx hb d_I_remainder_JJ_53 (fun h => c4 ((lg_cmp_eq _ _).mpr h)) ?_
          refine lv_topl (fun v6 e6 => ?_)
          refine lv_lstore (lv' := [(6, .long v6), (4, .long v1), (0, .long x0), (2, .long x2)]) hx hb d_I_remainder_JJ_54 hl (by decide) rfl (fun ls hl => ?_)
          refine lv_lload_n hx hb d_I_remainder_JJ_56 rfl (lv_at hl 2 rfl) ?_
          refine pu_i (As := [.long x0]) (rest := []) ⟨hx, hb, hml, hown, hts⟩ (c_I_power_J l _ x0) pu_pre (gw_call (k := 1) hts tw_94 tw_95 tw_5 tw_96 (by decide +kernel) rfl rfl ⟨Nat.le_of_ble_eq_true rfl, Nat.le_of_ble_eq_true rfl⟩) rfl hl.1 rfl (Nat.le_of_ble_eq_true rfl) ⟨Nat.zero_le _, Nat.zero_le _⟩ d_I_remainder_JJ_57 ?_
          refine lv_lload_n hx hb d_I_remainder_JJ_60 rfl (lv_at hl 3 rfl) ?_
          refine pu_i (As := [.long x2]) (rest := [.int (f_I_power_J x0)]) ⟨hx, hb, hml, hown, hts⟩ (c_I_power_J l _ x2) pu_pre (gw_call (k := 1) hts tw_94 tw_95 tw_5 tw_96 (by decide +kernel) rfl rfl ⟨Nat.le_of_ble_eq_true rfl, Nat.le_of_ble_eq_true rfl⟩) rfl hl.1 rfl (Nat.le_of_ble_eq_true rfl) ⟨Nat.zero_le _, Nat.zero_le _⟩ d_I_remainder_JJ_61 ?_
          refine lv_isub hx hb d_I_remainder_JJ_64 ?_
          refine lv_topi (fun v7 e7 => ?_)
          refine lv_istore (lv' := [(8, .int v7), (6, .long v6), (4, .long v1), (0, .long x0), (2, .long x2)]) hx hb d_I_remainder_JJ_65 hl (by decide) rfl (fun ls hl => ?_)
          exact k_I_remainder_JJ_67 C0 (v7.toNatClampNeg + 1) x0 x2 v1 v6 v7 (fun h => c4 ((lg_cmp_eq _ _).mpr h)) (Nat.lt_succ_self _) ls (lv_sub hl [3, 4, 2, 1, 0] rfl) (by have qe1 := e1.symm; have qe6 := e6.symm; have qe7 := e7.symm; subst qe1 qe6 qe7; exact (Eq.trans (if_pos c2) (Eq.trans (if_neg c3) (Eq.trans (if_neg c4) (if_pos c5)))))
        · refine lv_lload_n hx hb d_I_remainder_JJ_45 rfl (lv_at hl 1 rfl) ?_
          exact pu_lret hx hb hr hlocks d_I_remainder_JJ_46 (by have qe1 := e1.symm; subst qe1; exact Eq.symm (Eq.trans (if_pos c2) (Eq.trans (if_neg c3) (Eq.trans (if_neg c4) (if_neg c5)))))
      · refine lv_ldc2 (v := (9221120237041090560 : Int64)) hx hb hown (hts _ (gm tw_92)) d_I_remainder_JJ_27 ?_
        exact pu_lret hx hb hr hlocks d_I_remainder_JJ_30 (by have qe1 := e1.symm; subst qe1; exact Eq.symm (Eq.trans (if_pos c2) (Eq.trans (if_neg c3) (if_pos c4))))
-- ===== MotionLab$Ieee.lesser(JJ)J
abbrev y_I_lesser_JJ : MethodName := ⟨"MotionLab$Ieee", "lesser", "(JJ)J"⟩
abbrev b_I_lesser_JJ : ByteArray := prog_2_method_9_code
theorem d_I_lesser_JJ_0 : decode b_I_lesser_JJ 0 = .ok (.lload_n 0, 1) := by decide +kernel
theorem d_I_lesser_JJ_1 : decode b_I_lesser_JJ 1 = .ok (.invokestatic 13, 3) := by decide +kernel
theorem d_I_lesser_JJ_4 : decode b_I_lesser_JJ 4 = .ok (.ifCond .ne 10, 3) := by decide +kernel
theorem d_I_lesser_JJ_7 : decode b_I_lesser_JJ 7 = .ok (.lload_n 2, 1) := by decide +kernel
theorem d_I_lesser_JJ_8 : decode b_I_lesser_JJ 8 = .ok (.invokestatic 13, 3) := by decide +kernel
theorem d_I_lesser_JJ_11 : decode b_I_lesser_JJ 11 = .ok (.ifCond .eq 7, 3) := by decide +kernel
theorem d_I_lesser_JJ_14 : decode b_I_lesser_JJ 14 = .ok (.ldc2_w 17, 3) := by decide +kernel
theorem d_I_lesser_JJ_17 : decode b_I_lesser_JJ 17 = .ok (.lreturn, 1) := by decide +kernel
theorem d_I_lesser_JJ_18 : decode b_I_lesser_JJ 18 = .ok (.lload_n 0, 1) := by decide +kernel
theorem d_I_lesser_JJ_19 : decode b_I_lesser_JJ 19 = .ok (.invokestatic 25, 3) := by decide +kernel
theorem d_I_lesser_JJ_22 : decode b_I_lesser_JJ 22 = .ok (.lload_n 2, 1) := by decide +kernel
theorem d_I_lesser_JJ_23 : decode b_I_lesser_JJ 23 = .ok (.invokestatic 25, 3) := by decide +kernel
theorem d_I_lesser_JJ_26 : decode b_I_lesser_JJ 26 = .ok (.lcmp, 1) := by decide +kernel
theorem d_I_lesser_JJ_27 : decode b_I_lesser_JJ 27 = .ok (.ifCond .ne 7, 3) := by decide +kernel
theorem d_I_lesser_JJ_30 : decode b_I_lesser_JJ 30 = .ok (.lload_n 0, 1) := by decide +kernel
theorem d_I_lesser_JJ_31 : decode b_I_lesser_JJ 31 = .ok (.lload_n 2, 1) := by decide +kernel
theorem d_I_lesser_JJ_32 : decode b_I_lesser_JJ 32 = .ok (.lor, 1) := by decide +kernel
theorem d_I_lesser_JJ_33 : decode b_I_lesser_JJ 33 = .ok (.lreturn, 1) := by decide +kernel
theorem d_I_lesser_JJ_34 : decode b_I_lesser_JJ 34 = .ok (.lload_n 0, 1) := by decide +kernel
theorem d_I_lesser_JJ_35 : decode b_I_lesser_JJ 35 = .ok (.invokestatic 25, 3) := by decide +kernel
theorem d_I_lesser_JJ_38 : decode b_I_lesser_JJ 38 = .ok (.lload_n 2, 1) := by decide +kernel
theorem d_I_lesser_JJ_39 : decode b_I_lesser_JJ 39 = .ok (.invokestatic 25, 3) := by decide +kernel
theorem d_I_lesser_JJ_42 : decode b_I_lesser_JJ 42 = .ok (.lcmp, 1) := by decide +kernel
theorem d_I_lesser_JJ_43 : decode b_I_lesser_JJ 43 = .ok (.ifCond .ge 7, 3) := by decide +kernel
theorem d_I_lesser_JJ_46 : decode b_I_lesser_JJ 46 = .ok (.lload_n 0, 1) := by decide +kernel
theorem d_I_lesser_JJ_47 : decode b_I_lesser_JJ 47 = .ok (.goto 4, 3) := by decide +kernel
theorem d_I_lesser_JJ_50 : decode b_I_lesser_JJ 50 = .ok (.lload_n 2, 1) := by decide +kernel
theorem d_I_lesser_JJ_51 : decode b_I_lesser_JJ 51 = .ok (.lreturn, 1) := by decide +kernel
def f_I_lesser_JJ (x0 : Int64) (x2 : Int64) : Int64 :=
  if (f_I_isNoNumber_J x0) = 0 then
    if (f_I_isNoNumber_J x2) = 0 then
      if (lg_cmp (f_I_order_J x0) (f_I_order_J x2)) = 0 then
        x0 ||| x2
      else
        if 0 ≤ (lg_cmp (f_I_order_J x0) (f_I_order_J x2)) then
          x2
        else
          x0
    else
      (9221120237041090560 : Int64)
  else
    (9221120237041090560 : Int64)
set_option maxHeartbeats 4000000 in
set_option maxRecDepth 100000 in
theorem c_I_lesser_JJ (l : Launch) (h : Heap) (x0 : Int64) (x2 : Int64) : Met l y_I_lesser_JJ (gw y_I_lesser_JJ b_I_lesser_JJ 4 (some .long)) { frames := 1, cells := 0, slots := 0, locals := 21 } (pu_Pc [.long x0, .long x2] h) (pu_Ml (f_I_lesser_JJ x0 x2) h) 0 0 (fun _ => False) := by
  refine Met.ofW (cc := b_I_lesser_JJ) (maxL := 4) (ret := (some .long)) (by decide) rfl ?_
  intro p e s m args below meth c s₁ B hml hv
  obtain ⟨rfl, hh⟩ := hv
  subst hh
  have hx := B.exec
  have hb := B.bytes
  have hr := B.returns
  have hts := atoms_spec (ws := (gw y_I_lesser_JJ b_I_lesser_JJ 4 (some .long))) B.pre
  have hown : s.vm.findClass "MotionLab$Ieee" = some m.cls := findClass_of_methodNamed B.named
  have hlocks := B.notSynchronized
  have C0 : pu_C p s m _ meth c b_I_lesser_JJ 4 "MotionLab$Ieee" (some .long) (gw y_I_lesser_JJ b_I_lesser_JJ 4 (some .long)) := ⟨hx, hb, hml, hown, hts, hr, hlocks⟩
  have hl := lv_entry ([.long x0, .long x2]) (n := 4) (Nat.le_of_ble_eq_true rfl)
  rw [lg_entry_eq]
  generalize (lg_sl ([.long x0, .long x2]) ++ List.replicate (4 - (lg_sl ([.long x0, .long x2])).length) Slot.unset).toArray = ls at hl ⊢
  have hl : lv_has ls 4 [(0, .long x0), (2, .long x2)] := hl
  refine lv_lload_n hx hb d_I_lesser_JJ_0 rfl (lv_at hl 0 rfl) ?_
  refine pu_i (As := [.long x0]) (rest := []) ⟨hx, hb, hml, hown, hts⟩ (c_I_isNoNumber_J l _ x0) pu_pre (gw_call (k := 1) hts tw_89 tw_90 tw_5 tw_91 (by decide +kernel) rfl rfl ⟨Nat.le_of_ble_eq_true rfl, Nat.le_of_ble_eq_true rfl⟩) rfl hl.1 rfl (Nat.le_of_ble_eq_true rfl) ⟨Nat.zero_le _, Nat.zero_le _⟩ d_I_lesser_JJ_1 ?_
  refine lv_if_ne (tgt := 14) hx hb d_I_lesser_JJ_4 (by decide) (fun c1 => ?_) (fun c1 => ?_)
  · refine lv_ldc2 (v := (9221120237041090560 : Int64)) hx hb hown (hts _ (gm tw_92)) d_I_lesser_JJ_14 ?_
    exact pu_lret hx hb hr hlocks d_I_lesser_JJ_17 (by exact Eq.symm (if_neg c1))
  · refine lv_lload_n hx hb d_I_lesser_JJ_7 rfl (lv_at hl 1 rfl) ?_
    refine pu_i (As := [.long x2]) (rest := []) ⟨hx, hb, hml, hown, hts⟩ (c_I_isNoNumber_J l _ x2) pu_pre (gw_call (k := 1) hts tw_89 tw_90 tw_5 tw_91 (by decide +kernel) rfl rfl ⟨Nat.le_of_ble_eq_true rfl, Nat.le_of_ble_eq_true rfl⟩) rfl hl.1 rfl (Nat.le_of_ble_eq_true rfl) ⟨Nat.zero_le _, Nat.zero_le _⟩ d_I_lesser_JJ_8 ?_
    refine lv_if_eq (tgt := 18) hx hb d_I_lesser_JJ_11 (by decide) (fun c2 => ?_) (fun c2 => ?_)
    · refine lv_lload_n hx hb d_I_lesser_JJ_18 rfl (lv_at hl 0 rfl) ?_
      refine pu_l (As := [.long x0]) (rest := []) ⟨hx, hb, hml, hown, hts⟩ (c_I_order_J l _ x0) pu_pre (gw_call (k := 1) hts tw_233 tw_234 tw_5 tw_235 (by decide +kernel) rfl rfl ⟨Nat.le_of_ble_eq_true rfl, Nat.le_of_ble_eq_true rfl⟩) rfl hl.1 rfl (Nat.le_of_ble_eq_true rfl) ⟨Nat.zero_le _, Nat.zero_le _⟩ d_I_lesser_JJ_19 ?_
      refine lv_lload_n hx hb d_I_lesser_JJ_22 rfl (lv_at hl 1 rfl) ?_
      refine pu_l (As := [.long x2]) (rest := [.long (f_I_order_J x0)]) ⟨hx, hb, hml, hown, hts⟩ (c_I_order_J l _ x2) pu_pre (gw_call (k := 1) hts tw_233 tw_234 tw_5 tw_235 (by decide +kernel) rfl rfl ⟨Nat.le_of_ble_eq_true rfl, Nat.le_of_ble_eq_true rfl⟩) rfl hl.1 rfl (Nat.le_of_ble_eq_true rfl) ⟨Nat.zero_le _, Nat.zero_le _⟩ d_I_lesser_JJ_23 ?_
      refine W.lcmp hx hb d_I_lesser_JJ_26 ?_
      refine lv_if_ne (tgt := 34) hx hb d_I_lesser_JJ_27 (by decide) (fun c3 => ?_) (fun c3 => ?_)
      · refine lv_lload_n hx hb d_I_lesser_JJ_34 rfl (lv_at hl 0 rfl) ?_
        refine pu_l (As := [.long x0]) (rest := []) ⟨hx, hb, hml, hown, hts⟩ (c_I_order_J l _ x0) pu_pre (gw_call (k := 1) hts tw_233 tw_234 tw_5 tw_235 (by decide +kernel) rfl rfl ⟨Nat.le_of_ble_eq_true rfl, Nat.le_of_ble_eq_true rfl⟩) rfl hl.1 rfl (Nat.le_of_ble_eq_true rfl) ⟨Nat.zero_le _, Nat.zero_le _⟩ d_I_lesser_JJ_35 ?_
        refine lv_lload_n hx hb d_I_lesser_JJ_38 rfl (lv_at hl 1 rfl) ?_
        refine pu_l (As := [.long x2]) (rest := [.long (f_I_order_J x0)]) ⟨hx, hb, hml, hown, hts⟩ (c_I_order_J l _ x2) pu_pre (gw_call (k := 1) hts tw_233 tw_234 tw_5 tw_235 (by decide +kernel) rfl rfl ⟨Nat.le_of_ble_eq_true rfl, Nat.le_of_ble_eq_true rfl⟩) rfl hl.1 rfl (Nat.le_of_ble_eq_true rfl) ⟨Nat.zero_le _, Nat.zero_le _⟩ d_I_lesser_JJ_39 ?_
        refine W.lcmp hx hb d_I_lesser_JJ_42 ?_
        refine lv_if_ge (tgt := 50) hx hb d_I_lesser_JJ_43 (by decide) (fun c4 => ?_) (fun c4 => ?_)
        · refine lv_lload_n hx hb d_I_lesser_JJ_50 rfl (lv_at hl 1 rfl) ?_
          exact pu_lret hx hb hr hlocks d_I_lesser_JJ_51 (by exact Eq.symm (Eq.trans (if_pos c1) (Eq.trans (if_pos c2) (Eq.trans (if_neg c3) (if_pos c4)))))
        · refine lv_lload_n hx hb d_I_lesser_JJ_46 rfl (lv_at hl 0 rfl) ?_
          refine lv_goto (tgt := 51) hx hb d_I_lesser_JJ_47 (by decide) ?_
          exact pu_lret hx hb hr hlocks d_I_lesser_JJ_51 (by exact Eq.symm (Eq.trans (if_pos c1) (Eq.trans (if_pos c2) (Eq.trans (if_neg c3) (if_neg c4)))))
      · refine lv_lload_n hx hb d_I_lesser_JJ_30 rfl (lv_at hl 0 rfl) ?_
        refine lv_lload_n hx hb d_I_lesser_JJ_31 rfl (lv_at hl 1 rfl) ?_
        refine lv_lor hx hb d_I_lesser_JJ_32 ?_
        exact pu_lret hx hb hr hlocks d_I_lesser_JJ_33 (by exact Eq.symm (Eq.trans (if_pos c1) (Eq.trans (if_pos c2) (if_pos c3))))
    · refine lv_ldc2 (v := (9221120237041090560 : Int64)) hx hb hown (hts _ (gm tw_92)) d_I_lesser_JJ_14 ?_
      exact pu_lret hx hb hr hlocks d_I_lesser_JJ_17 (by exact Eq.symm (Eq.trans (if_pos c1) (if_neg c2)))
-- ===== MotionLab$Ieee.greater(JJ)J
abbrev y_I_greater_JJ : MethodName := ⟨"MotionLab$Ieee", "greater", "(JJ)J"⟩
abbrev b_I_greater_JJ : ByteArray := prog_2_method_10_code
theorem d_I_greater_JJ_0 : decode b_I_greater_JJ 0 = .ok (.lload_n 0, 1) := by decide +kernel
theorem d_I_greater_JJ_1 : decode b_I_greater_JJ 1 = .ok (.invokestatic 28, 3) := by decide +kernel
theorem d_I_greater_JJ_4 : decode b_I_greater_JJ 4 = .ok (.lload_n 2, 1) := by decide +kernel
theorem d_I_greater_JJ_5 : decode b_I_greater_JJ 5 = .ok (.invokestatic 28, 3) := by decide +kernel
theorem d_I_greater_JJ_8 : decode b_I_greater_JJ 8 = .ok (.invokestatic 31, 3) := by decide +kernel
theorem d_I_greater_JJ_11 : decode b_I_greater_JJ 11 = .ok (.invokestatic 28, 3) := by decide +kernel
theorem d_I_greater_JJ_14 : decode b_I_greater_JJ 14 = .ok (.lreturn, 1) := by decide +kernel
def f_I_greater_JJ (x0 : Int64) (x2 : Int64) : Int64 :=
  f_I_negated_J (f_I_lesser_JJ (f_I_negated_J x0) (f_I_negated_J x2))
set_option maxHeartbeats 4000000 in
set_option maxRecDepth 100000 in
theorem c_I_greater_JJ (l : Launch) (h : Heap) (x0 : Int64) (x2 : Int64) : Met l y_I_greater_JJ (gw y_I_greater_JJ b_I_greater_JJ 4 (some .long)) { frames := 3, cells := 0, slots := 0, locals := 63 } (pu_Pc [.long x0, .long x2] h) (pu_Ml (f_I_greater_JJ x0 x2) h) 0 0 (fun _ => False) := by
  refine Met.ofW (cc := b_I_greater_JJ) (maxL := 4) (ret := (some .long)) (by decide) rfl ?_
  intro p e s m args below meth c s₁ B hml hv
  obtain ⟨rfl, hh⟩ := hv
  subst hh
  have hx := B.exec
  have hb := B.bytes
  have hr := B.returns
  have hts := atoms_spec (ws := (gw y_I_greater_JJ b_I_greater_JJ 4 (some .long))) B.pre
  have hown : s.vm.findClass "MotionLab$Ieee" = some m.cls := findClass_of_methodNamed B.named
  have hlocks := B.notSynchronized
  have C0 : pu_C p s m _ meth c b_I_greater_JJ 4 "MotionLab$Ieee" (some .long) (gw y_I_greater_JJ b_I_greater_JJ 4 (some .long)) := ⟨hx, hb, hml, hown, hts, hr, hlocks⟩
  have hl := lv_entry ([.long x0, .long x2]) (n := 4) (Nat.le_of_ble_eq_true rfl)
  rw [lg_entry_eq]
  generalize (lg_sl ([.long x0, .long x2]) ++ List.replicate (4 - (lg_sl ([.long x0, .long x2])).length) Slot.unset).toArray = ls at hl ⊢
  have hl : lv_has ls 4 [(0, .long x0), (2, .long x2)] := hl
  refine lv_lload_n hx hb d_I_greater_JJ_0 rfl (lv_at hl 0 rfl) ?_
  refine pu_l (As := [.long x0]) (rest := []) ⟨hx, hb, hml, hown, hts⟩ (c_I_negated_J l _ x0) pu_pre (gw_call (k := 1) hts tw_320 tw_263 tw_5 tw_264 (by decide +kernel) rfl rfl ⟨Nat.le_of_ble_eq_true rfl, Nat.le_of_ble_eq_true rfl⟩) rfl hl.1 rfl (Nat.le_of_ble_eq_true rfl) ⟨Nat.zero_le _, Nat.zero_le _⟩ d_I_greater_JJ_1 ?_
  refine lv_lload_n hx hb d_I_greater_JJ_4 rfl (lv_at hl 1 rfl) ?_
  refine pu_l (As := [.long x2]) (rest := [.long (f_I_negated_J x0)]) ⟨hx, hb, hml, hown, hts⟩ (c_I_negated_J l _ x2) pu_pre (gw_call (k := 1) hts tw_320 tw_263 tw_5 tw_264 (by decide +kernel) rfl rfl ⟨Nat.le_of_ble_eq_true rfl, Nat.le_of_ble_eq_true rfl⟩) rfl hl.1 rfl (Nat.le_of_ble_eq_true rfl) ⟨Nat.zero_le _, Nat.zero_le _⟩ d_I_greater_JJ_5 ?_
  refine pu_l (As := [.long (f_I_negated_J x0), .long (f_I_negated_J x2)]) (rest := []) ⟨hx, hb, hml, hown, hts⟩ (c_I_lesser_JJ l _ (f_I_negated_J x0) (f_I_negated_J x2)) pu_pre (gw_call (k := 2) hts tw_321 tw_315 tw_5 tw_316 (by decide +kernel) rfl rfl ⟨Nat.le_of_ble_eq_true rfl, Nat.le_of_ble_eq_true rfl⟩) rfl hl.1 rfl (Nat.le_of_ble_eq_true rfl) ⟨Nat.zero_le _, Nat.zero_le _⟩ d_I_greater_JJ_8 ?_
  refine pu_l (As := [.long (f_I_lesser_JJ (f_I_negated_J x0) (f_I_negated_J x2))]) (rest := []) ⟨hx, hb, hml, hown, hts⟩ (c_I_negated_J l _ (f_I_lesser_JJ (f_I_negated_J x0) (f_I_negated_J x2))) pu_pre (gw_call (k := 1) hts tw_320 tw_263 tw_5 tw_264 (by decide +kernel) rfl rfl ⟨Nat.le_of_ble_eq_true rfl, Nat.le_of_ble_eq_true rfl⟩) rfl hl.1 rfl (Nat.le_of_ble_eq_true rfl) ⟨Nat.zero_le _, Nat.zero_le _⟩ d_I_greater_JJ_11 ?_
  exact pu_lret hx hb hr hlocks d_I_greater_JJ_14 (by exact Eq.symm rfl)
-- ===== MotionLab.floatResult(IJJ)J
abbrev y_L_floatResult_IJJ : MethodName := ⟨"MotionLab", "floatResult", "(IJJ)J"⟩
abbrev b_L_floatResult_IJJ : ByteArray := prog_1_method_21_code
theorem d_L_floatResult_IJJ_0 : decode b_L_floatResult_IJJ 0 = .ok (.iload_n 0, 1) := by decide +kernel
theorem d_L_floatResult_IJJ_1 : decode b_L_floatResult_IJJ 1 = .ok (.tableswitch 67 8 11 #[31, 40, 49, 58], 31) := by decide +kernel
theorem d_L_floatResult_IJJ_32 : decode b_L_floatResult_IJJ 32 = .ok (.lload_n 1, 1) := by decide +kernel
theorem d_L_floatResult_IJJ_33 : decode b_L_floatResult_IJJ 33 = .ok (.lload_n 3, 1) := by decide +kernel
theorem d_L_floatResult_IJJ_34 : decode b_L_floatResult_IJJ 34 = .ok (.invokestatic 122, 3) := by decide +kernel
theorem d_L_floatResult_IJJ_37 : decode b_L_floatResult_IJJ 37 = .ok (.invokestatic 125, 3) := by decide +kernel
theorem d_L_floatResult_IJJ_40 : decode b_L_floatResult_IJJ 40 = .ok (.lreturn, 1) := by decide +kernel
theorem d_L_floatResult_IJJ_41 : decode b_L_floatResult_IJJ 41 = .ok (.lload_n 1, 1) := by decide +kernel
theorem d_L_floatResult_IJJ_42 : decode b_L_floatResult_IJJ 42 = .ok (.lload_n 3, 1) := by decide +kernel
theorem d_L_floatResult_IJJ_43 : decode b_L_floatResult_IJJ 43 = .ok (.invokestatic 131, 3) := by decide +kernel
theorem d_L_floatResult_IJJ_46 : decode b_L_floatResult_IJJ 46 = .ok (.invokestatic 125, 3) := by decide +kernel
theorem d_L_floatResult_IJJ_49 : decode b_L_floatResult_IJJ 49 = .ok (.lreturn, 1) := by decide +kernel
theorem d_L_floatResult_IJJ_50 : decode b_L_floatResult_IJJ 50 = .ok (.lload_n 1, 1) := by decide +kernel
theorem d_L_floatResult_IJJ_51 : decode b_L_floatResult_IJJ 51 = .ok (.lload_n 3, 1) := by decide +kernel
theorem d_L_floatResult_IJJ_52 : decode b_L_floatResult_IJJ 52 = .ok (.invokestatic 118, 3) := by decide +kernel
theorem d_L_floatResult_IJJ_55 : decode b_L_floatResult_IJJ 55 = .ok (.invokestatic 125, 3) := by decide +kernel
theorem d_L_floatResult_IJJ_58 : decode b_L_floatResult_IJJ 58 = .ok (.lreturn, 1) := by decide +kernel
theorem d_L_floatResult_IJJ_59 : decode b_L_floatResult_IJJ 59 = .ok (.lload_n 1, 1) := by decide +kernel
theorem d_L_floatResult_IJJ_60 : decode b_L_floatResult_IJJ 60 = .ok (.lload_n 3, 1) := by decide +kernel
theorem d_L_floatResult_IJJ_61 : decode b_L_floatResult_IJJ 61 = .ok (.invokestatic 134, 3) := by decide +kernel
theorem d_L_floatResult_IJJ_64 : decode b_L_floatResult_IJJ 64 = .ok (.invokestatic 125, 3) := by decide +kernel
theorem d_L_floatResult_IJJ_67 : decode b_L_floatResult_IJJ 67 = .ok (.lreturn, 1) := by decide +kernel
theorem d_L_floatResult_IJJ_68 : decode b_L_floatResult_IJJ 68 = .ok (.lload_n 1, 1) := by decide +kernel
theorem d_L_floatResult_IJJ_69 : decode b_L_floatResult_IJJ 69 = .ok (.lload_n 3, 1) := by decide +kernel
theorem d_L_floatResult_IJJ_70 : decode b_L_floatResult_IJJ 70 = .ok (.invokestatic 137, 3) := by decide +kernel
theorem d_L_floatResult_IJJ_73 : decode b_L_floatResult_IJJ 73 = .ok (.lreturn, 1) := by decide +kernel
def f_L_floatResult_IJJ (x0 : Int32) (x1 : Int64) (x3 : Int64) : Int64 :=
  if x0 = 8 then
    f_I_toFloat_J (f_I_sum_JJ x1 x3)
  else
    if x0 = 9 then
      f_I_toFloat_J (f_I_difference_JJ x1 x3)
    else
      if x0 = 10 then
        f_I_toFloat_J (f_I_product_JJ x1 x3)
      else
        if x0 = 11 then
          f_I_toFloat_J (f_I_quotient_JJ x1 x3)
        else
          f_I_remainder_JJ x1 x3
set_option maxHeartbeats 4000000 in
set_option maxRecDepth 100000 in
theorem c_L_floatResult_IJJ (l : Launch) (h : Heap) (x0 : Int32) (x1 : Int64) (x3 : Int64) : Met l y_L_floatResult_IJJ (gw y_L_floatResult_IJJ b_L_floatResult_IJJ 5 (some .long)) { frames := 5, cells := 0, slots := 0, locals := 127 } (pu_Pc [.int x0, .long x1, .long x3] h) (pu_Ml (f_L_floatResult_IJJ x0 x1 x3) h) 0 0 (fun _ => False) := by
  refine Met.ofW (cc := b_L_floatResult_IJJ) (maxL := 5) (ret := (some .long)) (by decide) rfl ?_
  intro p e s m args below meth c s₁ B hml hv
  obtain ⟨rfl, hh⟩ := hv
  subst hh
  have hx := B.exec
  have hb := B.bytes
  have hr := B.returns
  have hts := atoms_spec (ws := (gw y_L_floatResult_IJJ b_L_floatResult_IJJ 5 (some .long))) B.pre
  have hown : s.vm.findClass "MotionLab" = some m.cls := findClass_of_methodNamed B.named
  have hlocks := B.notSynchronized
  have C0 : pu_C p s m _ meth c b_L_floatResult_IJJ 5 "MotionLab" (some .long) (gw y_L_floatResult_IJJ b_L_floatResult_IJJ 5 (some .long)) := ⟨hx, hb, hml, hown, hts, hr, hlocks⟩
  have hl := lv_entry ([.int x0, .long x1, .long x3]) (n := 5) (Nat.le_of_ble_eq_true rfl)
  rw [lg_entry_eq]
  generalize (lg_sl ([.int x0, .long x1, .long x3]) ++ List.replicate (5 - (lg_sl ([.int x0, .long x1, .long x3])).length) Slot.unset).toArray = ls at hl ⊢
  have hl : lv_has ls 5 [(0, .int x0), (1, .long x1), (3, .long x3)] := hl
  refine lv_iload_n hx hb d_L_floatResult_IJJ_0 rfl (lv_at hl 0 rfl) ?_
  by_cases c1 : x0 = 8
  · refine lv_tableIn (off := 31) (tgt := 32) hx hb d_L_floatResult_IJJ_1 (by rw [c1]; decide) (by rw [c1]; decide) (by rw [c1]; rfl) (by decide) ?_
    refine lv_lload_n hx hb d_L_floatResult_IJJ_32 rfl (lv_at hl 1 rfl) ?_
    refine lv_lload_n hx hb d_L_floatResult_IJJ_33 rfl (lv_at hl 2 rfl) ?_
    refine pu_l (As := [.long x1, .long x3]) (rest := []) ⟨hx, hb, hml, hown, hts⟩ (c_I_sum_JJ l _ x1 x3) pu_pre (gw_call (k := 2) hts tw_301 tw_192 tw_5 tw_193 (by decide +kernel) rfl rfl ⟨Nat.le_of_ble_eq_true rfl, Nat.le_of_ble_eq_true rfl⟩) rfl hl.1 rfl (Nat.le_of_ble_eq_true rfl) ⟨Nat.zero_le _, Nat.zero_le _⟩ d_L_floatResult_IJJ_34 ?_
    refine pu_l (As := [.long (f_I_sum_JJ x1 x3)]) (rest := []) ⟨hx, hb, hml, hown, hts⟩ (c_I_toFloat_J l _ (f_I_sum_JJ x1 x3)) pu_pre (gw_call (k := 1) hts tw_313 tw_79 tw_5 tw_80 (by decide +kernel) rfl rfl ⟨Nat.le_of_ble_eq_true rfl, Nat.le_of_ble_eq_true rfl⟩) rfl hl.1 rfl (Nat.le_of_ble_eq_true rfl) ⟨Nat.zero_le _, Nat.zero_le _⟩ d_L_floatResult_IJJ_37 ?_
    exact pu_lret hx hb hr hlocks d_L_floatResult_IJJ_40 (by exact Eq.symm (if_pos c1))
  · skip
    by_cases c2 : x0 = 9
    · refine lv_tableIn (off := 40) (tgt := 41) hx hb d_L_floatResult_IJJ_1 (by rw [c2]; decide) (by rw [c2]; decide) (by rw [c2]; rfl) (by decide) ?_
      refine lv_lload_n hx hb d_L_floatResult_IJJ_41 rfl (lv_at hl 1 rfl) ?_
      refine lv_lload_n hx hb d_L_floatResult_IJJ_42 rfl (lv_at hl 2 rfl) ?_
      refine pu_l (As := [.long x1, .long x3]) (rest := []) ⟨hx, hb, hml, hown, hts⟩ (c_I_difference_JJ l _ x1 x3) pu_pre (gw_call (k := 2) hts tw_302 tw_189 tw_5 tw_190 (by decide +kernel) rfl rfl ⟨Nat.le_of_ble_eq_true rfl, Nat.le_of_ble_eq_true rfl⟩) rfl hl.1 rfl (Nat.le_of_ble_eq_true rfl) ⟨Nat.zero_le _, Nat.zero_le _⟩ d_L_floatResult_IJJ_43 ?_
      refine pu_l (As := [.long (f_I_difference_JJ x1 x3)]) (rest := []) ⟨hx, hb, hml, hown, hts⟩ (c_I_toFloat_J l _ (f_I_difference_JJ x1 x3)) pu_pre (gw_call (k := 1) hts tw_313 tw_79 tw_5 tw_80 (by decide +kernel) rfl rfl ⟨Nat.le_of_ble_eq_true rfl, Nat.le_of_ble_eq_true rfl⟩) rfl hl.1 rfl (Nat.le_of_ble_eq_true rfl) ⟨Nat.zero_le _, Nat.zero_le _⟩ d_L_floatResult_IJJ_46 ?_
      exact pu_lret hx hb hr hlocks d_L_floatResult_IJJ_49 (by exact Eq.symm (Eq.trans (if_neg c1) (if_pos c2)))
    · skip
      by_cases c3 : x0 = 10
      · refine lv_tableIn (off := 49) (tgt := 50) hx hb d_L_floatResult_IJJ_1 (by rw [c3]; decide) (by rw [c3]; decide) (by rw [c3]; rfl) (by decide) ?_
        refine lv_lload_n hx hb d_L_floatResult_IJJ_50 rfl (lv_at hl 1 rfl) ?_
        refine lv_lload_n hx hb d_L_floatResult_IJJ_51 rfl (lv_at hl 2 rfl) ?_
        refine pu_l (As := [.long x1, .long x3]) (rest := []) ⟨hx, hb, hml, hown, hts⟩ (c_I_product_JJ l _ x1 x3) pu_pre (gw_call (k := 2) hts tw_303 tw_175 tw_5 tw_176 (by decide +kernel) rfl rfl ⟨Nat.le_of_ble_eq_true rfl, Nat.le_of_ble_eq_true rfl⟩) rfl hl.1 rfl (Nat.le_of_ble_eq_true rfl) ⟨Nat.zero_le _, Nat.zero_le _⟩ d_L_floatResult_IJJ_52 ?_
        refine pu_l (As := [.long (f_I_product_JJ x1 x3)]) (rest := []) ⟨hx, hb, hml, hown, hts⟩ (c_I_toFloat_J l _ (f_I_product_JJ x1 x3)) pu_pre (gw_call (k := 1) hts tw_313 tw_79 tw_5 tw_80 (by decide +kernel) rfl rfl ⟨Nat.le_of_ble_eq_true rfl, Nat.le_of_ble_eq_true rfl⟩) rfl hl.1 rfl (Nat.le_of_ble_eq_true rfl) ⟨Nat.zero_le _, Nat.zero_le _⟩ d_L_floatResult_IJJ_55 ?_
        exact pu_lret hx hb hr hlocks d_L_floatResult_IJJ_58 (by exact Eq.symm (Eq.trans (if_neg c1) (Eq.trans (if_neg c2) (if_pos c3))))
      · skip
        by_cases c4 : x0 = 11
        · refine lv_tableIn (off := 58) (tgt := 59) hx hb d_L_floatResult_IJJ_1 (by rw [c4]; decide) (by rw [c4]; decide) (by rw [c4]; rfl) (by decide) ?_
          refine lv_lload_n hx hb d_L_floatResult_IJJ_59 rfl (lv_at hl 1 rfl) ?_
          refine lv_lload_n hx hb d_L_floatResult_IJJ_60 rfl (lv_at hl 2 rfl) ?_
          refine pu_l (As := [.long x1, .long x3]) (rest := []) ⟨hx, hb, hml, hown, hts⟩ (c_I_quotient_JJ l _ x1 x3) pu_pre (gw_call (k := 2) hts tw_304 tw_224 tw_5 tw_225 (by decide +kernel) rfl rfl ⟨Nat.le_of_ble_eq_true rfl, Nat.le_of_ble_eq_true rfl⟩) rfl hl.1 rfl (Nat.le_of_ble_eq_true rfl) ⟨Nat.zero_le _, Nat.zero_le _⟩ d_L_floatResult_IJJ_61 ?_
          refine pu_l (As := [.long (f_I_quotient_JJ x1 x3)]) (rest := []) ⟨hx, hb, hml, hown, hts⟩ (c_I_toFloat_J l _ (f_I_quotient_JJ x1 x3)) pu_pre (gw_call (k := 1) hts tw_313 tw_79 tw_5 tw_80 (by decide +kernel) rfl rfl ⟨Nat.le_of_ble_eq_true rfl, Nat.le_of_ble_eq_true rfl⟩) rfl hl.1 rfl (Nat.le_of_ble_eq_true rfl) ⟨Nat.zero_le _, Nat.zero_le _⟩ d_L_floatResult_IJJ_64 ?_
          exact pu_lret hx hb hr hlocks d_L_floatResult_IJJ_67 (by exact Eq.symm (Eq.trans (if_neg c1) (Eq.trans (if_neg c2) (Eq.trans (if_neg c3) (if_pos c4)))))
        · skip
          refine lv_tableOut (tgt := 68) hx hb d_L_floatResult_IJJ_1 (sw_out (fun j h1 h2 e => by rcases (show j = 8 ∨ j = 9 ∨ j = 10 ∨ j = 11 by omega) with rfl | rfl | rfl | rfl <;> first | exact c1 (Int32.toInt_inj.mp (e.trans (by decide))) | exact c2 (Int32.toInt_inj.mp (e.trans (by decide))) | exact c3 (Int32.toInt_inj.mp (e.trans (by decide))) | exact c4 (Int32.toInt_inj.mp (e.trans (by decide))))) (by decide) ?_
          refine lv_lload_n hx hb d_L_floatResult_IJJ_68 rfl (lv_at hl 1 rfl) ?_
          refine lv_lload_n hx hb d_L_floatResult_IJJ_69 rfl (lv_at hl 2 rfl) ?_
          refine pu_l (As := [.long x1, .long x3]) (rest := []) ⟨hx, hb, hml, hown, hts⟩ (c_I_remainder_JJ l _ x1 x3) pu_pre (gw_call (k := 2) hts tw_305 tw_306 tw_5 tw_307 (by decide +kernel) rfl rfl ⟨Nat.le_of_ble_eq_true rfl, Nat.le_of_ble_eq_true rfl⟩) rfl hl.1 rfl (Nat.le_of_ble_eq_true rfl) ⟨Nat.zero_le _, Nat.zero_le _⟩ d_L_floatResult_IJJ_70 ?_
          exact pu_lret hx hb hr hlocks d_L_floatResult_IJJ_73 (by exact Eq.symm (Eq.trans (if_neg c1) (Eq.trans (if_neg c2) (Eq.trans (if_neg c3) (if_neg c4)))))
