-- ===== MotionLabModel.subtract(JJI)J
abbrev y_M_subtract_JJI : MethodName := ⟨"MotionLabModel", "subtract", "(JJI)J"⟩
abbrev b_M_subtract_JJI : ByteArray := prog_6_method_16_code
theorem d_M_subtract_JJI_0 : decode b_M_subtract_JJI 0 = .ok (.lload_n 2, 1) := by decide +kernel
theorem d_M_subtract_JJI_1 : decode b_M_subtract_JJI 1 = .ok (.iload 4, 2) := by decide +kernel
theorem d_M_subtract_JJI_3 : decode b_M_subtract_JJI 3 = .ok (.invokestatic 56, 3) := by decide +kernel
theorem d_M_subtract_JJI_6 : decode b_M_subtract_JJI 6 = .ok (.ifCond .eq 11, 3) := by decide +kernel
theorem d_M_subtract_JJI_9 : decode b_M_subtract_JJI 9 = .ok (.iload 4, 2) := by decide +kernel
theorem d_M_subtract_JJI_11 : decode b_M_subtract_JJI 11 = .ok (.invokestatic 60, 3) := by decide +kernel
theorem d_M_subtract_JJI_14 : decode b_M_subtract_JJI 14 = .ok (.goto 15, 3) := by decide +kernel
theorem d_M_subtract_JJI_17 : decode b_M_subtract_JJI 17 = .ok (.lload_n 0, 1) := by decide +kernel
theorem d_M_subtract_JJI_18 : decode b_M_subtract_JJI 18 = .ok (.lload_n 2, 1) := by decide +kernel
theorem d_M_subtract_JJI_19 : decode b_M_subtract_JJI 19 = .ok (.iload 4, 2) := by decide +kernel
theorem d_M_subtract_JJI_21 : decode b_M_subtract_JJI 21 = .ok (.invokestatic 79, 3) := by decide +kernel
theorem d_M_subtract_JJI_24 : decode b_M_subtract_JJI 24 = .ok (.iload 4, 2) := by decide +kernel
theorem d_M_subtract_JJI_26 : decode b_M_subtract_JJI 26 = .ok (.invokestatic 82, 3) := by decide +kernel
theorem d_M_subtract_JJI_29 : decode b_M_subtract_JJI 29 = .ok (.lreturn, 1) := by decide +kernel
def f_M_subtract_JJI (x0 : Int64) (x2 : Int64) (x4 : Int32) : Int64 :=
  if (f_M_isNone_JI x2 x4) = 0 then
    f_M_add_JJI x0 (f_M_turned_JI x2 x4) x4
  else
    f_M_none_I x4
set_option maxHeartbeats 4000000 in
set_option maxRecDepth 100000 in
theorem c_M_subtract_JJI (l : Launch) (h : Heap) (t0 t1 t2 : Nat) (x0 : Int64) (x2 : Int64) (x4 : Int32) (hk_x4 : vp_in x4 2) : Met l y_M_subtract_JJI (gw y_M_subtract_JJI b_M_subtract_JJI 5 (some .long)) { frames := 4, cells := 0, slots := 0, locals := 115 } (pr_Pc [.long x0, .long x2, .int x4] h t0 t1 t2) (pu_Ml (f_M_subtract_JJI x0 x2 x4) h) 0 0 (fun _ => False) := by
  refine Met.ofW (cc := b_M_subtract_JJI) (maxL := 5) (ret := (some .long)) (by decide) rfl ?_
  intro p e s m args below meth c s₁ B hml hv
  obtain ⟨rfl, hh, hRT⟩ := hv
  subst hh
  obtain ⟨hT0, hT1, hT2⟩ := id hRT
  have hx := B.exec
  have hb := B.bytes
  have hr := B.returns
  have hts := atoms_spec (ws := (gw y_M_subtract_JJI b_M_subtract_JJI 5 (some .long))) B.pre
  have hown : s.vm.findClass "MotionLabModel" = some m.cls := findClass_of_methodNamed B.named
  have hlocks := B.notSynchronized
  have C0 : pu_C p s m _ meth c b_M_subtract_JJI 5 "MotionLabModel" (some .long) (gw y_M_subtract_JJI b_M_subtract_JJI 5 (some .long)) := ⟨hx, hb, hml, hown, hts, hr, hlocks⟩
  have hl := lv_entry ([.long x0, .long x2, .int x4]) (n := 5) (Nat.le_of_ble_eq_true rfl)
  rw [lg_entry_eq]
  generalize (lg_sl ([.long x0, .long x2, .int x4]) ++ List.replicate (5 - (lg_sl ([.long x0, .long x2, .int x4])).length) Slot.unset).toArray = ls at hl ⊢
  have hl : lv_has ls 5 [(0, .long x0), (2, .long x2), (4, .int x4)] := hl
  refine lv_lload_n hx hb d_M_subtract_JJI_0 rfl (lv_at hl 1 rfl) ?_
  refine lv_iload hx hb d_M_subtract_JJI_1 (lv_at hl 2 rfl) ?_
  refine pu_i (As := [.long x2, .int x4]) (rest := []) ⟨hx, hb, hml, hown, hts⟩ (c_M_isNone_JI l _ x2 x4) pu_pre (gw_call (k := 2) hts tw_498 tw_499 tw_4 tw_500 (by decide +kernel) rfl rfl ⟨Nat.le_of_ble_eq_true rfl, Nat.le_of_ble_eq_true rfl⟩) rfl hl.1 rfl (Nat.le_of_ble_eq_true rfl) ⟨Nat.zero_le _, Nat.zero_le _⟩ d_M_subtract_JJI_3 ?_
  refine lv_if_eq (tgt := 17) hx hb d_M_subtract_JJI_6 (by decide) (fun c1 => ?_) (fun c1 => ?_)
  · refine lv_lload_n hx hb d_M_subtract_JJI_17 rfl (lv_at hl 0 rfl) ?_
    refine lv_lload_n hx hb d_M_subtract_JJI_18 rfl (lv_at hl 1 rfl) ?_
    refine lv_iload hx hb d_M_subtract_JJI_19 (lv_at hl 2 rfl) ?_
    refine pu_l (As := [.long x2, .int x4]) (rest := [.long x0]) ⟨hx, hb, hml, hown, hts⟩ (c_M_turned_JI l _ x2 x4) pu_pre (gw_call (k := 2) hts tw_594 tw_595 tw_4 tw_596 (by decide +kernel) rfl rfl ⟨Nat.le_of_ble_eq_true rfl, Nat.le_of_ble_eq_true rfl⟩) rfl hl.1 rfl (Nat.le_of_ble_eq_true rfl) ⟨Nat.zero_le _, Nat.zero_le _⟩ d_M_subtract_JJI_21 ?_
    refine lv_iload hx hb d_M_subtract_JJI_24 (lv_at hl 2 rfl) ?_
    refine pu_l (As := [.long x0, .long (f_M_turned_JI x2 x4), .int x4]) (rest := []) ⟨hx, hb, hml, hown, hts⟩ (c_M_add_JJI l _ t0 t1 t2 x0 (f_M_turned_JI x2 x4) x4 hk_x4) (pr_pre hRT) (gw_call (k := 3) hts tw_597 tw_598 tw_4 tw_599 (by decide +kernel) rfl rfl ⟨Nat.le_of_ble_eq_true rfl, Nat.le_of_ble_eq_true rfl⟩) rfl hl.1 rfl (Nat.le_of_ble_eq_true rfl) ⟨Nat.zero_le _, Nat.zero_le _⟩ d_M_subtract_JJI_26 ?_
    exact pu_lret hx hb hr hlocks d_M_subtract_JJI_29 (by exact Eq.symm (if_pos c1))
  · refine lv_iload hx hb d_M_subtract_JJI_9 (lv_at hl 2 rfl) ?_
    refine pu_l (As := [.int x4]) (rest := []) ⟨hx, hb, hml, hown, hts⟩ (c_M_none_I l _ x4) pu_pre (gw_call (k := 1) hts tw_511 tw_512 tw_4 tw_513 (by decide +kernel) rfl rfl ⟨Nat.le_of_ble_eq_true rfl, Nat.le_of_ble_eq_true rfl⟩) rfl hl.1 rfl (Nat.le_of_ble_eq_true rfl) ⟨Nat.zero_le _, Nat.zero_le _⟩ d_M_subtract_JJI_11 ?_
    refine lv_goto (tgt := 29) hx hb d_M_subtract_JJI_14 (by decide) ?_
    exact pu_lret hx hb hr hlocks d_M_subtract_JJI_29 (by exact Eq.symm (if_neg c1))
-- ===== MotionLabModel.subtract(JJ)J
abbrev y_M_subtract_JJ : MethodName := ⟨"MotionLabModel", "subtract", "(JJ)J"⟩
abbrev b_M_subtract_JJ : ByteArray := prog_6_method_27_code
theorem d_M_subtract_JJ_0 : decode b_M_subtract_JJ 0 = .ok (.lload_n 0, 1) := by decide +kernel
theorem d_M_subtract_JJ_1 : decode b_M_subtract_JJ 1 = .ok (.lload_n 2, 1) := by decide +kernel
theorem d_M_subtract_JJ_2 : decode b_M_subtract_JJ 2 = .ok (.iconst 0, 1) := by decide +kernel
theorem d_M_subtract_JJ_3 : decode b_M_subtract_JJ 3 = .ok (.invokestatic 107, 3) := by decide +kernel
theorem d_M_subtract_JJ_6 : decode b_M_subtract_JJ 6 = .ok (.lreturn, 1) := by decide +kernel
def f_M_subtract_JJ (x0 : Int64) (x2 : Int64) : Int64 :=
  f_M_subtract_JJI x0 x2 (0 : Int32)
set_option maxHeartbeats 4000000 in
set_option maxRecDepth 100000 in
theorem c_M_subtract_JJ (l : Launch) (h : Heap) (t0 t1 t2 : Nat) (x0 : Int64) (x2 : Int64) : Met l y_M_subtract_JJ (gw y_M_subtract_JJ b_M_subtract_JJ 4 (some .long)) { frames := 5, cells := 0, slots := 0, locals := 139 } (pr_Pc [.long x0, .long x2] h t0 t1 t2) (pu_Ml (f_M_subtract_JJ x0 x2) h) 0 0 (fun _ => False) := by
  refine Met.ofW (cc := b_M_subtract_JJ) (maxL := 4) (ret := (some .long)) (by decide) rfl ?_
  intro p e s m args below meth c s₁ B hml hv
  obtain ⟨rfl, hh, hRT⟩ := hv
  subst hh
  obtain ⟨hT0, hT1, hT2⟩ := id hRT
  have hx := B.exec
  have hb := B.bytes
  have hr := B.returns
  have hts := atoms_spec (ws := (gw y_M_subtract_JJ b_M_subtract_JJ 4 (some .long))) B.pre
  have hown : s.vm.findClass "MotionLabModel" = some m.cls := findClass_of_methodNamed B.named
  have hlocks := B.notSynchronized
  have C0 : pu_C p s m _ meth c b_M_subtract_JJ 4 "MotionLabModel" (some .long) (gw y_M_subtract_JJ b_M_subtract_JJ 4 (some .long)) := ⟨hx, hb, hml, hown, hts, hr, hlocks⟩
  have hl := lv_entry ([.long x0, .long x2]) (n := 4) (Nat.le_of_ble_eq_true rfl)
  rw [lg_entry_eq]
  generalize (lg_sl ([.long x0, .long x2]) ++ List.replicate (4 - (lg_sl ([.long x0, .long x2])).length) Slot.unset).toArray = ls at hl ⊢
  have hl : lv_has ls 4 [(0, .long x0), (2, .long x2)] := hl
  refine lv_lload_n hx hb d_M_subtract_JJ_0 rfl (lv_at hl 0 rfl) ?_
  refine lv_lload_n hx hb d_M_subtract_JJ_1 rfl (lv_at hl 1 rfl) ?_
  refine lv_iconst (v := 0) hx hb d_M_subtract_JJ_2 (by decide) ?_
  refine pu_l (As := [.long x0, .long x2, .int (0 : Int32)]) (rest := []) ⟨hx, hb, hml, hown, hts⟩ (c_M_subtract_JJI l _ t0 t1 t2 x0 x2 (0 : Int32) (in_of (by decide) (by decide))) (pr_pre hRT) (gw_call (k := 3) hts tw_591 tw_592 tw_4 tw_593 (by decide +kernel) rfl rfl ⟨Nat.le_of_ble_eq_true rfl, Nat.le_of_ble_eq_true rfl⟩) rfl hl.1 rfl (Nat.le_of_ble_eq_true rfl) ⟨Nat.zero_le _, Nat.zero_le _⟩ d_M_subtract_JJ_3 ?_
  exact pu_lret hx hb hr hlocks d_M_subtract_JJ_6 (by exact Eq.symm rfl)
-- ===== MotionLabModel.add(JJ)J
abbrev y_M_add_JJ : MethodName := ⟨"MotionLabModel", "add", "(JJ)J"⟩
abbrev b_M_add_JJ : ByteArray := prog_6_method_26_code
theorem d_M_add_JJ_0 : decode b_M_add_JJ 0 = .ok (.lload_n 0, 1) := by decide +kernel
theorem d_M_add_JJ_1 : decode b_M_add_JJ 1 = .ok (.lload_n 2, 1) := by decide +kernel
theorem d_M_add_JJ_2 : decode b_M_add_JJ 2 = .ok (.iconst 0, 1) := by decide +kernel
theorem d_M_add_JJ_3 : decode b_M_add_JJ 3 = .ok (.invokestatic 82, 3) := by decide +kernel
theorem d_M_add_JJ_6 : decode b_M_add_JJ 6 = .ok (.lreturn, 1) := by decide +kernel
def f_M_add_JJ (x0 : Int64) (x2 : Int64) : Int64 :=
  f_M_add_JJI x0 x2 (0 : Int32)
set_option maxHeartbeats 4000000 in
set_option maxRecDepth 100000 in
theorem c_M_add_JJ (l : Launch) (h : Heap) (t0 t1 t2 : Nat) (x0 : Int64) (x2 : Int64) : Met l y_M_add_JJ (gw y_M_add_JJ b_M_add_JJ 4 (some .long)) { frames := 4, cells := 0, slots := 0, locals := 115 } (pr_Pc [.long x0, .long x2] h t0 t1 t2) (pu_Ml (f_M_add_JJ x0 x2) h) 0 0 (fun _ => False) := by
  refine Met.ofW (cc := b_M_add_JJ) (maxL := 4) (ret := (some .long)) (by decide) rfl ?_
  intro p e s m args below meth c s₁ B hml hv
  obtain ⟨rfl, hh, hRT⟩ := hv
  subst hh
  obtain ⟨hT0, hT1, hT2⟩ := id hRT
  have hx := B.exec
  have hb := B.bytes
  have hr := B.returns
  have hts := atoms_spec (ws := (gw y_M_add_JJ b_M_add_JJ 4 (some .long))) B.pre
  have hown : s.vm.findClass "MotionLabModel" = some m.cls := findClass_of_methodNamed B.named
  have hlocks := B.notSynchronized
  have C0 : pu_C p s m _ meth c b_M_add_JJ 4 "MotionLabModel" (some .long) (gw y_M_add_JJ b_M_add_JJ 4 (some .long)) := ⟨hx, hb, hml, hown, hts, hr, hlocks⟩
  have hl := lv_entry ([.long x0, .long x2]) (n := 4) (Nat.le_of_ble_eq_true rfl)
  rw [lg_entry_eq]
  generalize (lg_sl ([.long x0, .long x2]) ++ List.replicate (4 - (lg_sl ([.long x0, .long x2])).length) Slot.unset).toArray = ls at hl ⊢
  have hl : lv_has ls 4 [(0, .long x0), (2, .long x2)] := hl
  refine lv_lload_n hx hb d_M_add_JJ_0 rfl (lv_at hl 0 rfl) ?_
  refine lv_lload_n hx hb d_M_add_JJ_1 rfl (lv_at hl 1 rfl) ?_
  refine lv_iconst (v := 0) hx hb d_M_add_JJ_2 (by decide) ?_
  refine pu_l (As := [.long x0, .long x2, .int (0 : Int32)]) (rest := []) ⟨hx, hb, hml, hown, hts⟩ (c_M_add_JJI l _ t0 t1 t2 x0 x2 (0 : Int32) (in_of (by decide) (by decide))) (pr_pre hRT) (gw_call (k := 3) hts tw_597 tw_598 tw_4 tw_599 (by decide +kernel) rfl rfl ⟨Nat.le_of_ble_eq_true rfl, Nat.le_of_ble_eq_true rfl⟩) rfl hl.1 rfl (Nat.le_of_ble_eq_true rfl) ⟨Nat.zero_le _, Nat.zero_le _⟩ d_M_add_JJ_3 ?_
  exact pu_lret hx hb hr hlocks d_M_add_JJ_6 (by exact Eq.symm rfl)
-- ===== MotionLabModel.square(JJ)J
abbrev y_M_square_JJ : MethodName := ⟨"MotionLabModel", "square", "(JJ)J"⟩
abbrev b_M_square_JJ : ByteArray := prog_6_method_38_code
theorem d_M_square_JJ_0 : decode b_M_square_JJ 0 = .ok (.lload_n 0, 1) := by decide +kernel
theorem d_M_square_JJ_1 : decode b_M_square_JJ 1 = .ok (.lload_n 0, 1) := by decide +kernel
theorem d_M_square_JJ_2 : decode b_M_square_JJ 2 = .ok (.invokestatic 216, 3) := by decide +kernel
theorem d_M_square_JJ_5 : decode b_M_square_JJ 5 = .ok (.lload_n 2, 1) := by decide +kernel
theorem d_M_square_JJ_6 : decode b_M_square_JJ 6 = .ok (.lload_n 2, 1) := by decide +kernel
theorem d_M_square_JJ_7 : decode b_M_square_JJ 7 = .ok (.invokestatic 216, 3) := by decide +kernel
theorem d_M_square_JJ_10 : decode b_M_square_JJ 10 = .ok (.invokestatic 123, 3) := by decide +kernel
theorem d_M_square_JJ_13 : decode b_M_square_JJ 13 = .ok (.lreturn, 1) := by decide +kernel
def f_M_square_JJ (x0 : Int64) (x2 : Int64) : Int64 :=
  f_M_add_JJ (f_M_multiply_JJ x0 x0) (f_M_multiply_JJ x2 x2)
set_option maxHeartbeats 4000000 in
set_option maxRecDepth 100000 in
theorem c_M_square_JJ (l : Launch) (h : Heap) (t0 t1 t2 : Nat) (x0 : Int64) (x2 : Int64) : Met l y_M_square_JJ (gw y_M_square_JJ b_M_square_JJ 4 (some .long)) { frames := 6, cells := 0, slots := 0, locals := 168 } (pr_Pc [.long x0, .long x2] h t0 t1 t2) (pu_Ml (f_M_square_JJ x0 x2) h) 0 0 (fun _ => False) := by
  refine Met.ofW (cc := b_M_square_JJ) (maxL := 4) (ret := (some .long)) (by decide) rfl ?_
  intro p e s m args below meth c s₁ B hml hv
  obtain ⟨rfl, hh, hRT⟩ := hv
  subst hh
  obtain ⟨hT0, hT1, hT2⟩ := id hRT
  have hx := B.exec
  have hb := B.bytes
  have hr := B.returns
  have hts := atoms_spec (ws := (gw y_M_square_JJ b_M_square_JJ 4 (some .long))) B.pre
  have hown : s.vm.findClass "MotionLabModel" = some m.cls := findClass_of_methodNamed B.named
  have hlocks := B.notSynchronized
  have C0 : pu_C p s m _ meth c b_M_square_JJ 4 "MotionLabModel" (some .long) (gw y_M_square_JJ b_M_square_JJ 4 (some .long)) := ⟨hx, hb, hml, hown, hts, hr, hlocks⟩
  have hl := lv_entry ([.long x0, .long x2]) (n := 4) (Nat.le_of_ble_eq_true rfl)
  rw [lg_entry_eq]
  generalize (lg_sl ([.long x0, .long x2]) ++ List.replicate (4 - (lg_sl ([.long x0, .long x2])).length) Slot.unset).toArray = ls at hl ⊢
  have hl : lv_has ls 4 [(0, .long x0), (2, .long x2)] := hl
  refine lv_lload_n hx hb d_M_square_JJ_0 rfl (lv_at hl 0 rfl) ?_
  refine lv_lload_n hx hb d_M_square_JJ_1 rfl (lv_at hl 0 rfl) ?_
  refine pu_l (As := [.long x0, .long x0]) (rest := []) ⟨hx, hb, hml, hown, hts⟩ (c_M_multiply_JJ l _ t0 t1 t2 x0 x0) (pr_pre hRT) (gw_call (k := 2) hts tw_573 tw_574 tw_4 tw_575 (by decide +kernel) rfl rfl ⟨Nat.le_of_ble_eq_true rfl, Nat.le_of_ble_eq_true rfl⟩) rfl hl.1 rfl (Nat.le_of_ble_eq_true rfl) ⟨Nat.zero_le _, Nat.zero_le _⟩ d_M_square_JJ_2 ?_
  refine lv_lload_n hx hb d_M_square_JJ_5 rfl (lv_at hl 1 rfl) ?_
  refine lv_lload_n hx hb d_M_square_JJ_6 rfl (lv_at hl 1 rfl) ?_
  refine pu_l (As := [.long x2, .long x2]) (rest := [.long (f_M_multiply_JJ x0 x0)]) ⟨hx, hb, hml, hown, hts⟩ (c_M_multiply_JJ l _ t0 t1 t2 x2 x2) (pr_pre hRT) (gw_call (k := 2) hts tw_573 tw_574 tw_4 tw_575 (by decide +kernel) rfl rfl ⟨Nat.le_of_ble_eq_true rfl, Nat.le_of_ble_eq_true rfl⟩) rfl hl.1 rfl (Nat.le_of_ble_eq_true rfl) ⟨Nat.zero_le _, Nat.zero_le _⟩ d_M_square_JJ_7 ?_
  refine pu_l (As := [.long (f_M_multiply_JJ x0 x0), .long (f_M_multiply_JJ x2 x2)]) (rest := []) ⟨hx, hb, hml, hown, hts⟩ (c_M_add_JJ l _ t0 t1 t2 (f_M_multiply_JJ x0 x0) (f_M_multiply_JJ x2 x2)) (pr_pre hRT) (gw_call (k := 2) hts tw_611 tw_612 tw_4 tw_613 (by decide +kernel) rfl rfl ⟨Nat.le_of_ble_eq_true rfl, Nat.le_of_ble_eq_true rfl⟩) rfl hl.1 rfl (Nat.le_of_ble_eq_true rfl) ⟨Nat.zero_le _, Nat.zero_le _⟩ d_M_square_JJ_10 ?_
  exact pu_lret hx hb hr hlocks d_M_square_JJ_13 (by exact Eq.symm rfl)
-- ===== java/lang/Long.compare(JJ)I
abbrev y_jL_compare_JJ : MethodName := ⟨"java/lang/Long", "compare", "(JJ)I"⟩
abbrev b_jL_compare_JJ : ByteArray := prog_8_method_42_code
theorem d_jL_compare_JJ_0 : decode b_jL_compare_JJ 0 = .ok (.lload_n 0, 1) := by decide +kernel
theorem d_jL_compare_JJ_1 : decode b_jL_compare_JJ 1 = .ok (.lload_n 2, 1) := by decide +kernel
theorem d_jL_compare_JJ_2 : decode b_jL_compare_JJ 2 = .ok (.lcmp, 1) := by decide +kernel
theorem d_jL_compare_JJ_3 : decode b_jL_compare_JJ 3 = .ok (.ifCond .ge 7, 3) := by decide +kernel
theorem d_jL_compare_JJ_6 : decode b_jL_compare_JJ 6 = .ok (.iconst (-1), 1) := by decide +kernel
theorem d_jL_compare_JJ_7 : decode b_jL_compare_JJ 7 = .ok (.goto 14, 3) := by decide +kernel
theorem d_jL_compare_JJ_10 : decode b_jL_compare_JJ 10 = .ok (.lload_n 0, 1) := by decide +kernel
theorem d_jL_compare_JJ_11 : decode b_jL_compare_JJ 11 = .ok (.lload_n 2, 1) := by decide +kernel
theorem d_jL_compare_JJ_12 : decode b_jL_compare_JJ 12 = .ok (.lcmp, 1) := by decide +kernel
theorem d_jL_compare_JJ_13 : decode b_jL_compare_JJ 13 = .ok (.ifCond .ne 7, 3) := by decide +kernel
theorem d_jL_compare_JJ_16 : decode b_jL_compare_JJ 16 = .ok (.iconst 0, 1) := by decide +kernel
theorem d_jL_compare_JJ_17 : decode b_jL_compare_JJ 17 = .ok (.goto 4, 3) := by decide +kernel
theorem d_jL_compare_JJ_20 : decode b_jL_compare_JJ 20 = .ok (.iconst 1, 1) := by decide +kernel
theorem d_jL_compare_JJ_21 : decode b_jL_compare_JJ 21 = .ok (.ireturn, 1) := by decide +kernel
def f_jL_compare_JJ (x0 : Int64) (x2 : Int64) : Int32 :=
  if 0 ≤ (lg_cmp x0 x2) then
    if (lg_cmp x0 x2) = 0 then
      (0 : Int32)
    else
      (1 : Int32)
  else
    (-1 : Int32)
set_option maxHeartbeats 4000000 in
set_option maxRecDepth 100000 in
theorem c_jL_compare_JJ (l : Launch) (h : Heap) (x0 : Int64) (x2 : Int64) : Met l y_jL_compare_JJ (gw y_jL_compare_JJ b_jL_compare_JJ 4 (some .int)) { frames := 0, cells := 0, slots := 0, locals := 0 } (pu_Pc [.long x0, .long x2] h) (pu_Mi (f_jL_compare_JJ x0 x2) h) 0 0 (fun _ => False) := by
  refine va_MetF (cc := b_jL_compare_JJ) (maxL := 4) (ret := (some .int)) (by decide +kernel) rfl ?_
  intro p e s m args below meth c s₁ B hml hv
  obtain ⟨rfl, hh⟩ := hv
  subst hh
  have hx := B.exec
  have hb := B.bytes
  have hr := B.returns
  have hts := atoms_spec (ws := (gw y_jL_compare_JJ b_jL_compare_JJ 4 (some .int))) B.pre
  have hown : s.vm.findClass "java/lang/Long" = some m.cls := findClass_of_methodNamed B.named
  have hlocks := B.notSynchronized
  have C0 : pu_C p s m _ meth c b_jL_compare_JJ 4 "java/lang/Long" (some .int) (gw y_jL_compare_JJ b_jL_compare_JJ 4 (some .int)) := ⟨hx, hb, hml, hown, hts, hr, hlocks⟩
  have hl := lv_entry ([.long x0, .long x2]) (n := 4) (Nat.le_of_ble_eq_true rfl)
  rw [lg_entry_eq]
  generalize (lg_sl ([.long x0, .long x2]) ++ List.replicate (4 - (lg_sl ([.long x0, .long x2])).length) Slot.unset).toArray = ls at hl ⊢
  have hl : lv_has ls 4 [(0, .long x0), (2, .long x2)] := hl
  refine lv_lload_n hx hb d_jL_compare_JJ_0 rfl (lv_at hl 0 rfl) ?_
  refine lv_lload_n hx hb d_jL_compare_JJ_1 rfl (lv_at hl 1 rfl) ?_
  refine W.lcmp hx hb d_jL_compare_JJ_2 ?_
  refine lv_if_ge (tgt := 10) hx hb d_jL_compare_JJ_3 (by decide) (fun c1 => ?_) (fun c1 => ?_)
  · refine lv_lload_n hx hb d_jL_compare_JJ_10 rfl (lv_at hl 0 rfl) ?_
    refine lv_lload_n hx hb d_jL_compare_JJ_11 rfl (lv_at hl 1 rfl) ?_
    refine W.lcmp hx hb d_jL_compare_JJ_12 ?_
    refine lv_if_ne (tgt := 20) hx hb d_jL_compare_JJ_13 (by decide) (fun c2 => ?_) (fun c2 => ?_)
    · refine lv_iconst (v := 1) hx hb d_jL_compare_JJ_20 (by decide) ?_
      exact pu_iret hx hb hr hlocks d_jL_compare_JJ_21 (by exact Eq.symm (Eq.trans (if_pos c1) (if_neg c2)))
    · refine lv_iconst (v := 0) hx hb d_jL_compare_JJ_16 (by decide) ?_
      refine lv_goto (tgt := 21) hx hb d_jL_compare_JJ_17 (by decide) ?_
      exact pu_iret hx hb hr hlocks d_jL_compare_JJ_21 (by exact Eq.symm (Eq.trans (if_pos c1) (if_pos c2)))
  · refine lv_iconst (v := (-1)) hx hb d_jL_compare_JJ_6 (by decide) ?_
    refine lv_goto (tgt := 21) hx hb d_jL_compare_JJ_7 (by decide) ?_
    exact pu_iret hx hb hr hlocks d_jL_compare_JJ_21 (by exact Eq.symm (if_neg c1))
-- ===== MotionLabModel.order(JJ)I
abbrev y_M_order_JJ : MethodName := ⟨"MotionLabModel", "order", "(JJ)I"⟩
abbrev b_M_order_JJ : ByteArray := prog_6_method_24_code
theorem d_M_order_JJ_0 : decode b_M_order_JJ 0 = .ok (.lload_n 0, 1) := by decide +kernel
theorem d_M_order_JJ_1 : decode b_M_order_JJ 1 = .ok (.iconst 0, 1) := by decide +kernel
theorem d_M_order_JJ_2 : decode b_M_order_JJ 2 = .ok (.invokestatic 56, 3) := by decide +kernel
theorem d_M_order_JJ_5 : decode b_M_order_JJ 5 = .ok (.ifCond .ne 11, 3) := by decide +kernel
theorem d_M_order_JJ_8 : decode b_M_order_JJ 8 = .ok (.lload_n 2, 1) := by decide +kernel
theorem d_M_order_JJ_9 : decode b_M_order_JJ 9 = .ok (.iconst 0, 1) := by decide +kernel
theorem d_M_order_JJ_10 : decode b_M_order_JJ 10 = .ok (.invokestatic 56, 3) := by decide +kernel
theorem d_M_order_JJ_13 : decode b_M_order_JJ 13 = .ok (.ifCond .eq 5, 3) := by decide +kernel
theorem d_M_order_JJ_16 : decode b_M_order_JJ 16 = .ok (.iconst 2, 1) := by decide +kernel
theorem d_M_order_JJ_17 : decode b_M_order_JJ 17 = .ok (.ireturn, 1) := by decide +kernel
theorem d_M_order_JJ_18 : decode b_M_order_JJ 18 = .ok (.lload_n 0, 1) := by decide +kernel
theorem d_M_order_JJ_19 : decode b_M_order_JJ 19 = .ok (.iconst 0, 1) := by decide +kernel
theorem d_M_order_JJ_20 : decode b_M_order_JJ 20 = .ok (.invokestatic 76, 3) := by decide +kernel
theorem d_M_order_JJ_23 : decode b_M_order_JJ 23 = .ok (.ifCond .eq 12, 3) := by decide +kernel
theorem d_M_order_JJ_26 : decode b_M_order_JJ 26 = .ok (.lload_n 0, 1) := by decide +kernel
theorem d_M_order_JJ_27 : decode b_M_order_JJ 27 = .ok (.iconst 0, 1) := by decide +kernel
theorem d_M_order_JJ_28 : decode b_M_order_JJ 28 = .ok (.invokestatic 15, 3) := by decide +kernel
theorem d_M_order_JJ_31 : decode b_M_order_JJ 31 = .ok (.lneg, 1) := by decide +kernel
theorem d_M_order_JJ_32 : decode b_M_order_JJ 32 = .ok (.goto 8, 3) := by decide +kernel
theorem d_M_order_JJ_35 : decode b_M_order_JJ 35 = .ok (.lload_n 0, 1) := by decide +kernel
theorem d_M_order_JJ_36 : decode b_M_order_JJ 36 = .ok (.iconst 0, 1) := by decide +kernel
theorem d_M_order_JJ_37 : decode b_M_order_JJ 37 = .ok (.invokestatic 15, 3) := by decide +kernel
theorem d_M_order_JJ_40 : decode b_M_order_JJ 40 = .ok (.lstore 4, 2) := by decide +kernel
theorem d_M_order_JJ_42 : decode b_M_order_JJ 42 = .ok (.lload_n 2, 1) := by decide +kernel
theorem d_M_order_JJ_43 : decode b_M_order_JJ 43 = .ok (.iconst 0, 1) := by decide +kernel
theorem d_M_order_JJ_44 : decode b_M_order_JJ 44 = .ok (.invokestatic 76, 3) := by decide +kernel
theorem d_M_order_JJ_47 : decode b_M_order_JJ 47 = .ok (.ifCond .eq 12, 3) := by decide +kernel
theorem d_M_order_JJ_50 : decode b_M_order_JJ 50 = .ok (.lload_n 2, 1) := by decide +kernel
theorem d_M_order_JJ_51 : decode b_M_order_JJ 51 = .ok (.iconst 0, 1) := by decide +kernel
theorem d_M_order_JJ_52 : decode b_M_order_JJ 52 = .ok (.invokestatic 15, 3) := by decide +kernel
theorem d_M_order_JJ_55 : decode b_M_order_JJ 55 = .ok (.lneg, 1) := by decide +kernel
theorem d_M_order_JJ_56 : decode b_M_order_JJ 56 = .ok (.goto 8, 3) := by decide +kernel
theorem d_M_order_JJ_59 : decode b_M_order_JJ 59 = .ok (.lload_n 2, 1) := by decide +kernel
theorem d_M_order_JJ_60 : decode b_M_order_JJ 60 = .ok (.iconst 0, 1) := by decide +kernel
theorem d_M_order_JJ_61 : decode b_M_order_JJ 61 = .ok (.invokestatic 15, 3) := by decide +kernel
theorem d_M_order_JJ_64 : decode b_M_order_JJ 64 = .ok (.lstore 6, 2) := by decide +kernel
theorem d_M_order_JJ_66 : decode b_M_order_JJ 66 = .ok (.lload 4, 2) := by decide +kernel
theorem d_M_order_JJ_68 : decode b_M_order_JJ 68 = .ok (.lload 6, 2) := by decide +kernel
theorem d_M_order_JJ_70 : decode b_M_order_JJ 70 = .ok (.invokestatic 103, 3) := by decide +kernel
theorem d_M_order_JJ_73 : decode b_M_order_JJ 73 = .ok (.ireturn, 1) := by decide +kernel
def f_M_order_JJ_40 (x2 : Int64) (s0 : Int64) : Int32 :=
  if (f_M_minus_JI x2 (0 : Int32)) = 0 then
    let v2 : Int64 := f_M_size_JI x2 (0 : Int32)
    f_jL_compare_JJ s0 v2
  else
    let v3 : Int64 := -(f_M_size_JI x2 (0 : Int32))
    f_jL_compare_JJ s0 v3
set_option maxHeartbeats 4000000 in
set_option maxRecDepth 100000 in
theorem k_M_order_JJ_40 {p : Program} {l : Launch} {e : Env} {s : State} {m : MethodId} {args : Array Value} {below : List Frame} {meth : Method} {c : Code} (C0 : pu_C p s m args meth c b_M_order_JJ 8 "MotionLabModel" (some .int) (gw y_M_order_JJ b_M_order_JJ 8 (some .int))) (x2 : Int64) (s0 : Int64) (ls : Array Slot) (hl : lv_has ls 8 [(2, .long x2)]) {w : Int32} (hw : w = f_M_order_JJ_40 x2 s0) : W p l e (headSpec (gw y_M_order_JJ b_M_order_JJ 8 (some .int)) ({ frames := 3, cells := 0, slots := 0, locals := 64 } : Room)).room s m args below meth c s.heap [] 0 0 (pu_Qi w below args s) (F0 m 40 ls [.long s0]) := by
  obtain ⟨hx, hb, hml, hown, hts, hr, hlocks⟩ := id C0
  refine lv_lstore (lv' := [(4, .long s0), (2, .long x2)]) hx hb d_M_order_JJ_40 hl (by decide) rfl (fun ls hl => ?_)
  refine lv_lload_n hx hb d_M_order_JJ_42 rfl (lv_at hl 1 rfl) ?_
  refine lv_iconst (v := 0) hx hb d_M_order_JJ_43 (by decide) ?_
  refine pu_i (As := [.long x2, .int (0 : Int32)]) (rest := []) ⟨hx, hb, hml, hown, hts⟩ (c_M_minus_JI l _ x2 (0 : Int32)) pu_pre (gw_call (k := 2) hts tw_519 tw_520 tw_4 tw_521 (by decide +kernel) rfl rfl ⟨Nat.le_of_ble_eq_true rfl, Nat.le_of_ble_eq_true rfl⟩) rfl hl.1 rfl (Nat.le_of_ble_eq_true rfl) ⟨Nat.zero_le _, Nat.zero_le _⟩ d_M_order_JJ_44 ?_
  refine lv_if_eq (tgt := 59) hx hb d_M_order_JJ_47 (by decide) (fun c1 => ?_) (fun c1 => ?_)
  · refine lv_lload_n hx hb d_M_order_JJ_59 rfl (lv_at hl 1 rfl) ?_
    refine lv_iconst (v := 0) hx hb d_M_order_JJ_60 (by decide) ?_
    refine pu_l (As := [.long x2, .int (0 : Int32)]) (rest := []) ⟨hx, hb, hml, hown, hts⟩ (c_M_size_JI l _ x2 (0 : Int32)) pu_pre (gw_call (k := 2) hts tw_501 tw_502 tw_4 tw_503 (by decide +kernel) rfl rfl ⟨Nat.le_of_ble_eq_true rfl, Nat.le_of_ble_eq_true rfl⟩) rfl hl.1 rfl (Nat.le_of_ble_eq_true rfl) ⟨Nat.zero_le _, Nat.zero_le _⟩ d_M_order_JJ_61 ?_
    refine lv_topl (fun v2 e2 => ?_)
    refine lv_lstore (lv' := [(6, .long v2), (4, .long s0), (2, .long x2)]) hx hb d_M_order_JJ_64 hl (by decide) rfl (fun ls hl => ?_)
    refine lv_lload hx hb d_M_order_JJ_66 (lv_at hl 1 rfl) ?_
    refine lv_lload hx hb d_M_order_JJ_68 (lv_at hl 0 rfl) ?_
    refine pu_i (As := [.long s0, .long v2]) (rest := []) ⟨hx, hb, hml, hown, hts⟩ (c_jL_compare_JJ l _ s0 v2) pu_pre (gw_call (k := 2) hts tw_620 tw_621 tw_7 tw_622 (by decide +kernel) rfl rfl ⟨Nat.le_of_ble_eq_true rfl, Nat.le_of_ble_eq_true rfl⟩) rfl hl.1 rfl (Nat.le_of_ble_eq_true rfl) ⟨Nat.zero_le _, Nat.zero_le _⟩ d_M_order_JJ_70 ?_
    exact pu_iret hx hb hr hlocks d_M_order_JJ_73 (by have qe2 := e2.symm; subst qe2; exact Eq.symm (hw.trans (if_pos c1)))
  · refine lv_lload_n hx hb d_M_order_JJ_50 rfl (lv_at hl 1 rfl) ?_
    refine lv_iconst (v := 0) hx hb d_M_order_JJ_51 (by decide) ?_
    refine pu_l (As := [.long x2, .int (0 : Int32)]) (rest := []) ⟨hx, hb, hml, hown, hts⟩ (c_M_size_JI l _ x2 (0 : Int32)) pu_pre (gw_call (k := 2) hts tw_501 tw_502 tw_4 tw_503 (by decide +kernel) rfl rfl ⟨Nat.le_of_ble_eq_true rfl, Nat.le_of_ble_eq_true rfl⟩) rfl hl.1 rfl (Nat.le_of_ble_eq_true rfl) ⟨Nat.zero_le _, Nat.zero_le _⟩ d_M_order_JJ_52 ?_
    refine lv_lneg hx hb d_M_order_JJ_55 ?_
    refine lv_goto (tgt := 64) hx hb d_M_order_JJ_56 (by decide) ?_
    refine lv_topl (fun v3 e3 => ?_)
    refine lv_lstore (lv' := [(6, .long v3), (4, .long s0), (2, .long x2)]) hx hb d_M_order_JJ_64 hl (by decide) rfl (fun ls hl => ?_)
    refine lv_lload hx hb d_M_order_JJ_66 (lv_at hl 1 rfl) ?_
    refine lv_lload hx hb d_M_order_JJ_68 (lv_at hl 0 rfl) ?_
    refine pu_i (As := [.long s0, .long v3]) (rest := []) ⟨hx, hb, hml, hown, hts⟩ (c_jL_compare_JJ l _ s0 v3) pu_pre (gw_call (k := 2) hts tw_620 tw_621 tw_7 tw_622 (by decide +kernel) rfl rfl ⟨Nat.le_of_ble_eq_true rfl, Nat.le_of_ble_eq_true rfl⟩) rfl hl.1 rfl (Nat.le_of_ble_eq_true rfl) ⟨Nat.zero_le _, Nat.zero_le _⟩ d_M_order_JJ_70 ?_
    exact pu_iret hx hb hr hlocks d_M_order_JJ_73 (by have qe3 := e3.symm; subst qe3; exact Eq.symm (hw.trans (if_neg c1)))
def f_M_order_JJ (x0 : Int64) (x2 : Int64) : Int32 :=
  if (f_M_isNone_JI x0 (0 : Int32)) = 0 then
    if (f_M_isNone_JI x2 (0 : Int32)) = 0 then
      if (f_M_minus_JI x0 (0 : Int32)) = 0 then
        f_M_order_JJ_40 x2 (f_M_size_JI x0 (0 : Int32))
      else
        f_M_order_JJ_40 x2 (-(f_M_size_JI x0 (0 : Int32)))
    else
      (2 : Int32)
  else
    (2 : Int32)
set_option maxHeartbeats 4000000 in
set_option maxRecDepth 100000 in
theorem c_M_order_JJ (l : Launch) (h : Heap) (x0 : Int64) (x2 : Int64) : Met l y_M_order_JJ (gw y_M_order_JJ b_M_order_JJ 8 (some .int)) { frames := 3, cells := 0, slots := 0, locals := 64 } (pu_Pc [.long x0, .long x2] h) (pu_Mi (f_M_order_JJ x0 x2) h) 0 0 (fun _ => False) := by
  refine Met.ofW (cc := b_M_order_JJ) (maxL := 8) (ret := (some .int)) (by decide) rfl ?_
  intro p e s m args below meth c s₁ B hml hv
  obtain ⟨rfl, hh⟩ := hv
  subst hh
  have hx := B.exec
  have hb := B.bytes
  have hr := B.returns
  have hts := atoms_spec (ws := (gw y_M_order_JJ b_M_order_JJ 8 (some .int))) B.pre
  have hown : s.vm.findClass "MotionLabModel" = some m.cls := findClass_of_methodNamed B.named
  have hlocks := B.notSynchronized
  have C0 : pu_C p s m _ meth c b_M_order_JJ 8 "MotionLabModel" (some .int) (gw y_M_order_JJ b_M_order_JJ 8 (some .int)) := ⟨hx, hb, hml, hown, hts, hr, hlocks⟩
  have hl := lv_entry ([.long x0, .long x2]) (n := 8) (Nat.le_of_ble_eq_true rfl)
  rw [lg_entry_eq]
  generalize (lg_sl ([.long x0, .long x2]) ++ List.replicate (8 - (lg_sl ([.long x0, .long x2])).length) Slot.unset).toArray = ls at hl ⊢
  have hl : lv_has ls 8 [(0, .long x0), (2, .long x2)] := hl
  refine lv_lload_n hx hb d_M_order_JJ_0 rfl (lv_at hl 0 rfl) ?_
  refine lv_iconst (v := 0) hx hb d_M_order_JJ_1 (by decide) ?_
  refine pu_i (As := [.long x0, .int (0 : Int32)]) (rest := []) ⟨hx, hb, hml, hown, hts⟩ (c_M_isNone_JI l _ x0 (0 : Int32)) pu_pre (gw_call (k := 2) hts tw_498 tw_499 tw_4 tw_500 (by decide +kernel) rfl rfl ⟨Nat.le_of_ble_eq_true rfl, Nat.le_of_ble_eq_true rfl⟩) rfl hl.1 rfl (Nat.le_of_ble_eq_true rfl) ⟨Nat.zero_le _, Nat.zero_le _⟩ d_M_order_JJ_2 ?_
  refine lv_if_ne (tgt := 16) hx hb d_M_order_JJ_5 (by decide) (fun c1 => ?_) (fun c1 => ?_)
  · refine lv_iconst (v := 2) hx hb d_M_order_JJ_16 (by decide) ?_
    exact pu_iret hx hb hr hlocks d_M_order_JJ_17 (by exact Eq.symm (if_neg c1))
  · refine lv_lload_n hx hb d_M_order_JJ_8 rfl (lv_at hl 1 rfl) ?_
    refine lv_iconst (v := 0) hx hb d_M_order_JJ_9 (by decide) ?_
    refine pu_i (As := [.long x2, .int (0 : Int32)]) (rest := []) ⟨hx, hb, hml, hown, hts⟩ (c_M_isNone_JI l _ x2 (0 : Int32)) pu_pre (gw_call (k := 2) hts tw_498 tw_499 tw_4 tw_500 (by decide +kernel) rfl rfl ⟨Nat.le_of_ble_eq_true rfl, Nat.le_of_ble_eq_true rfl⟩) rfl hl.1 rfl (Nat.le_of_ble_eq_true rfl) ⟨Nat.zero_le _, Nat.zero_le _⟩ d_M_order_JJ_10 ?_
    refine lv_if_eq (tgt := 18) hx hb d_M_order_JJ_13 (by decide) (fun c2 => ?_) (fun c2 => ?_)
    · refine lv_lload_n hx hb d_M_order_JJ_18 rfl (lv_at hl 0 rfl) ?_
      refine lv_iconst (v := 0) hx hb d_M_order_JJ_19 (by decide) ?_
      refine pu_i (As := [.long x0, .int (0 : Int32)]) (rest := []) ⟨hx, hb, hml, hown, hts⟩ (c_M_minus_JI l _ x0 (0 : Int32)) pu_pre (gw_call (k := 2) hts tw_519 tw_520 tw_4 tw_521 (by decide +kernel) rfl rfl ⟨Nat.le_of_ble_eq_true rfl, Nat.le_of_ble_eq_true rfl⟩) rfl hl.1 rfl (Nat.le_of_ble_eq_true rfl) ⟨Nat.zero_le _, Nat.zero_le _⟩ d_M_order_JJ_20 ?_
      refine lv_if_eq (tgt := 35) hx hb d_M_order_JJ_23 (by decide) (fun c3 => ?_) (fun c3 => ?_)
      · refine lv_lload_n hx hb d_M_order_JJ_35 rfl (lv_at hl 0 rfl) ?_
        refine lv_iconst (v := 0) hx hb d_M_order_JJ_36 (by decide) ?_
        refine pu_l (As := [.long x0, .int (0 : Int32)]) (rest := []) ⟨hx, hb, hml, hown, hts⟩ (c_M_size_JI l _ x0 (0 : Int32)) pu_pre (gw_call (k := 2) hts tw_501 tw_502 tw_4 tw_503 (by decide +kernel) rfl rfl ⟨Nat.le_of_ble_eq_true rfl, Nat.le_of_ble_eq_true rfl⟩) rfl hl.1 rfl (Nat.le_of_ble_eq_true rfl) ⟨Nat.zero_le _, Nat.zero_le _⟩ d_M_order_JJ_37 ?_
        exact k_M_order_JJ_40 C0 x2 (f_M_size_JI x0 (0 : Int32)) ls (lv_sub hl [1] rfl) (by exact (Eq.trans (if_pos c1) (Eq.trans (if_pos c2) (if_pos c3))))
      · refine lv_lload_n hx hb d_M_order_JJ_26 rfl (lv_at hl 0 rfl) ?_
        refine lv_iconst (v := 0) hx hb d_M_order_JJ_27 (by decide) ?_
        refine pu_l (As := [.long x0, .int (0 : Int32)]) (rest := []) ⟨hx, hb, hml, hown, hts⟩ (c_M_size_JI l _ x0 (0 : Int32)) pu_pre (gw_call (k := 2) hts tw_501 tw_502 tw_4 tw_503 (by decide +kernel) rfl rfl ⟨Nat.le_of_ble_eq_true rfl, Nat.le_of_ble_eq_true rfl⟩) rfl hl.1 rfl (Nat.le_of_ble_eq_true rfl) ⟨Nat.zero_le _, Nat.zero_le _⟩ d_M_order_JJ_28 ?_
        refine lv_lneg hx hb d_M_order_JJ_31 ?_
        refine lv_goto (tgt := 40) hx hb d_M_order_JJ_32 (by decide) ?_
        exact k_M_order_JJ_40 C0 x2 (-(f_M_size_JI x0 (0 : Int32))) ls (lv_sub hl [1] rfl) (by exact (Eq.trans (if_pos c1) (Eq.trans (if_pos c2) (if_neg c3))))
    · refine lv_iconst (v := 2) hx hb d_M_order_JJ_16 (by decide) ?_
      exact pu_iret hx hb hr hlocks d_M_order_JJ_17 (by exact Eq.symm (Eq.trans (if_pos c1) (if_neg c2)))
