-- ===== MotionLabModel.told(J)J
abbrev y_M_told_J : MethodName := ⟨"MotionLabModel", "told", "(J)J"⟩
abbrev b_M_told_J : ByteArray := prog_6_method_25_code
theorem d_M_told_J_0 : decode b_M_told_J 0 = .ok (.lload_n 0, 1) := by decide +kernel
theorem d_M_told_J_1 : decode b_M_told_J 1 = .ok (.iconst 0, 1) := by decide +kernel
theorem d_M_told_J_2 : decode b_M_told_J 2 = .ok (.invokestatic 56, 3) := by decide +kernel
theorem d_M_told_J_5 : decode b_M_told_J 5 = .ok (.ifCond .eq 9, 3) := by decide +kernel
theorem d_M_told_J_8 : decode b_M_told_J 8 = .ok (.ldc2_w 11, 3) := by decide +kernel
theorem d_M_told_J_11 : decode b_M_told_J 11 = .ok (.goto 4, 3) := by decide +kernel
theorem d_M_told_J_14 : decode b_M_told_J 14 = .ok (.lload_n 0, 1) := by decide +kernel
theorem d_M_told_J_15 : decode b_M_told_J 15 = .ok (.lreturn, 1) := by decide +kernel
def f_M_told_J (x0 : Int64) : Int64 :=
  if (f_M_isNone_JI x0 (0 : Int32)) = 0 then
    x0
  else
    (9221120237041090560 : Int64)
set_option maxHeartbeats 4000000 in
set_option maxRecDepth 100000 in
theorem c_M_told_J (l : Launch) (h : Heap) (x0 : Int64) : Met l y_M_told_J (gw y_M_told_J b_M_told_J 2 (some .long)) { frames := 3, cells := 0, slots := 0, locals := 64 } (pu_Pc [.long x0] h) (pu_Ml (f_M_told_J x0) h) 0 0 (fun _ => False) := by
  refine Met.ofW (cc := b_M_told_J) (maxL := 2) (ret := (some .long)) (by decide) rfl ?_
  intro p e s m args below meth c s₁ B hml hv
  obtain ⟨rfl, hh⟩ := hv
  subst hh
  have hx := B.exec
  have hb := B.bytes
  have hr := B.returns
  have hts := atoms_spec (ws := (gw y_M_told_J b_M_told_J 2 (some .long))) B.pre
  have hown : s.vm.findClass "MotionLabModel" = some m.cls := findClass_of_methodNamed B.named
  have hlocks := B.notSynchronized
  have C0 : pu_C p s m _ meth c b_M_told_J 2 "MotionLabModel" (some .long) (gw y_M_told_J b_M_told_J 2 (some .long)) := ⟨hx, hb, hml, hown, hts, hr, hlocks⟩
  have hl := lv_entry ([.long x0]) (n := 2) (Nat.le_of_ble_eq_true rfl)
  rw [lg_entry_eq]
  generalize (lg_sl ([.long x0]) ++ List.replicate (2 - (lg_sl ([.long x0])).length) Slot.unset).toArray = ls at hl ⊢
  have hl : lv_has ls 2 [(0, .long x0)] := hl
  refine lv_lload_n hx hb d_M_told_J_0 rfl (lv_at hl 0 rfl) ?_
  refine lv_iconst (v := 0) hx hb d_M_told_J_1 (by decide) ?_
  refine pu_i (As := [.long x0, .int (0 : Int32)]) (rest := []) ⟨hx, hb, hml, hown, hts⟩ (c_M_isNone_JI l _ x0 (0 : Int32)) pu_pre (gw_call (k := 2) hts tw_498 tw_499 tw_4 tw_500 (by decide +kernel) rfl rfl ⟨Nat.le_of_ble_eq_true rfl, Nat.le_of_ble_eq_true rfl⟩) rfl hl.1 rfl (Nat.le_of_ble_eq_true rfl) ⟨Nat.zero_le _, Nat.zero_le _⟩ d_M_told_J_2 ?_
  refine lv_if_eq (tgt := 14) hx hb d_M_told_J_5 (by decide) (fun c1 => ?_) (fun c1 => ?_)
  · refine lv_lload_n hx hb d_M_told_J_14 rfl (lv_at hl 0 rfl) ?_
    exact pu_lret hx hb hr hlocks d_M_told_J_15 (by exact Eq.symm (if_pos c1))
  · refine lv_ldc2 (v := (9221120237041090560 : Int64)) hx hb hown (hts _ (gm tw_514)) d_M_told_J_8 ?_
    refine lv_goto (tgt := 15) hx hb d_M_told_J_11 (by decide) ?_
    exact pu_lret hx hb hr hlocks d_M_told_J_15 (by exact Eq.symm (if_neg c1))
-- ===== MotionLabModel.end(JJZ)J
abbrev y_M_end_JJZ : MethodName := ⟨"MotionLabModel", "end", "(JJZ)J"⟩
abbrev b_M_end_JJZ : ByteArray := prog_6_method_49_code
theorem d_M_end_JJZ_0 : decode b_M_end_JJZ 0 = .ok (.lload_n 0, 1) := by decide +kernel
theorem d_M_end_JJZ_1 : decode b_M_end_JJZ 1 = .ok (.lload_n 2, 1) := by decide +kernel
theorem d_M_end_JJZ_2 : decode b_M_end_JJZ 2 = .ok (.invokestatic 116, 3) := by decide +kernel
theorem d_M_end_JJZ_5 : decode b_M_end_JJZ 5 = .ok (.istore 5, 2) := by decide +kernel
theorem d_M_end_JJZ_7 : decode b_M_end_JJZ 7 = .ok (.iload 5, 2) := by decide +kernel
theorem d_M_end_JJZ_9 : decode b_M_end_JJZ 9 = .ok (.iconst 2, 1) := by decide +kernel
theorem d_M_end_JJZ_10 : decode b_M_end_JJZ 10 = .ok (.if_icmp .ne 7, 3) := by decide +kernel
theorem d_M_end_JJZ_13 : decode b_M_end_JJZ 13 = .ok (.ldc2_w 11, 3) := by decide +kernel
theorem d_M_end_JJZ_16 : decode b_M_end_JJZ 16 = .ok (.lreturn, 1) := by decide +kernel
theorem d_M_end_JJZ_17 : decode b_M_end_JJZ 17 = .ok (.iload 5, 2) := by decide +kernel
theorem d_M_end_JJZ_19 : decode b_M_end_JJZ 19 = .ok (.ifCond .ne 19, 3) := by decide +kernel
theorem d_M_end_JJZ_22 : decode b_M_end_JJZ 22 = .ok (.lload_n 0, 1) := by decide +kernel
theorem d_M_end_JJZ_23 : decode b_M_end_JJZ 23 = .ok (.iconst 0, 1) := by decide +kernel
theorem d_M_end_JJZ_24 : decode b_M_end_JJZ 24 = .ok (.invokestatic 76, 3) := by decide +kernel
theorem d_M_end_JJZ_27 : decode b_M_end_JJZ 27 = .ok (.iload 4, 2) := by decide +kernel
theorem d_M_end_JJZ_29 : decode b_M_end_JJZ 29 = .ok (.if_icmp .eq 7, 3) := by decide +kernel
theorem d_M_end_JJZ_32 : decode b_M_end_JJZ 32 = .ok (.lload_n 0, 1) := by decide +kernel
theorem d_M_end_JJZ_33 : decode b_M_end_JJZ 33 = .ok (.goto 4, 3) := by decide +kernel
theorem d_M_end_JJZ_36 : decode b_M_end_JJZ 36 = .ok (.lload_n 2, 1) := by decide +kernel
theorem d_M_end_JJZ_37 : decode b_M_end_JJZ 37 = .ok (.lreturn, 1) := by decide +kernel
theorem d_M_end_JJZ_38 : decode b_M_end_JJZ 38 = .ok (.iload 5, 2) := by decide +kernel
theorem d_M_end_JJZ_40 : decode b_M_end_JJZ 40 = .ok (.ifCond .ge 7, 3) := by decide +kernel
theorem d_M_end_JJZ_43 : decode b_M_end_JJZ 43 = .ok (.iconst 1, 1) := by decide +kernel
theorem d_M_end_JJZ_44 : decode b_M_end_JJZ 44 = .ok (.goto 4, 3) := by decide +kernel
theorem d_M_end_JJZ_47 : decode b_M_end_JJZ 47 = .ok (.iconst 0, 1) := by decide +kernel
theorem d_M_end_JJZ_48 : decode b_M_end_JJZ 48 = .ok (.iload 4, 2) := by decide +kernel
theorem d_M_end_JJZ_50 : decode b_M_end_JJZ 50 = .ok (.if_icmp .eq 7, 3) := by decide +kernel
theorem d_M_end_JJZ_53 : decode b_M_end_JJZ 53 = .ok (.lload_n 0, 1) := by decide +kernel
theorem d_M_end_JJZ_54 : decode b_M_end_JJZ 54 = .ok (.goto 4, 3) := by decide +kernel
theorem d_M_end_JJZ_57 : decode b_M_end_JJZ 57 = .ok (.lload_n 2, 1) := by decide +kernel
theorem d_M_end_JJZ_58 : decode b_M_end_JJZ 58 = .ok (.lreturn, 1) := by decide +kernel
def f_M_end_JJZ (x0 : Int64) (x2 : Int64) (x4 : Int32) : Int64 :=
  let v1 : Int32 := f_M_order_JJ x0 x2
  if v1 = (2 : Int32) then
    (9221120237041090560 : Int64)
  else
    if v1 = 0 then
      if (f_M_minus_JI x0 (0 : Int32)) = x4 then
        x2
      else
        x0
    else
      if 0 ≤ v1 then
        if (0 : Int32) = x4 then
          x2
        else
          x0
      else
        if (1 : Int32) = x4 then
          x2
        else
          x0
set_option maxHeartbeats 4000000 in
set_option maxRecDepth 100000 in
theorem c_M_end_JJZ (l : Launch) (h : Heap) (x0 : Int64) (x2 : Int64) (x4 : Int32) : Met l y_M_end_JJZ (gw y_M_end_JJZ b_M_end_JJZ 6 (some .long)) { frames := 4, cells := 0, slots := 0, locals := 91 } (pu_Pc [.long x0, .long x2, .int x4] h) (pu_Ml (f_M_end_JJZ x0 x2 x4) h) 0 0 (fun _ => False) := by
  refine Met.ofW (cc := b_M_end_JJZ) (maxL := 6) (ret := (some .long)) (by decide) rfl ?_
  intro p e s m args below meth c s₁ B hml hv
  obtain ⟨rfl, hh⟩ := hv
  subst hh
  have hx := B.exec
  have hb := B.bytes
  have hr := B.returns
  have hts := atoms_spec (ws := (gw y_M_end_JJZ b_M_end_JJZ 6 (some .long))) B.pre
  have hown : s.vm.findClass "MotionLabModel" = some m.cls := findClass_of_methodNamed B.named
  have hlocks := B.notSynchronized
  have C0 : pu_C p s m _ meth c b_M_end_JJZ 6 "MotionLabModel" (some .long) (gw y_M_end_JJZ b_M_end_JJZ 6 (some .long)) := ⟨hx, hb, hml, hown, hts, hr, hlocks⟩
  have hl := lv_entry ([.long x0, .long x2, .int x4]) (n := 6) (Nat.le_of_ble_eq_true rfl)
  rw [lg_entry_eq]
  generalize (lg_sl ([.long x0, .long x2, .int x4]) ++ List.replicate (6 - (lg_sl ([.long x0, .long x2, .int x4])).length) Slot.unset).toArray = ls at hl ⊢
  have hl : lv_has ls 6 [(0, .long x0), (2, .long x2), (4, .int x4)] := hl
  refine lv_lload_n hx hb d_M_end_JJZ_0 rfl (lv_at hl 0 rfl) ?_
  refine lv_lload_n hx hb d_M_end_JJZ_1 rfl (lv_at hl 1 rfl) ?_
  refine pu_i (As := [.long x0, .long x2]) (rest := []) ⟨hx, hb, hml, hown, hts⟩ (c_M_order_JJ l _ x0 x2) pu_pre (gw_call (k := 2) hts tw_617 tw_618 tw_4 tw_619 (by decide +kernel) rfl rfl ⟨Nat.le_of_ble_eq_true rfl, Nat.le_of_ble_eq_true rfl⟩) rfl hl.1 rfl (Nat.le_of_ble_eq_true rfl) ⟨Nat.zero_le _, Nat.zero_le _⟩ d_M_end_JJZ_2 ?_
  refine lv_topi (fun v1 e1 => ?_)
  refine lv_istore (lv' := [(5, .int v1), (0, .long x0), (2, .long x2), (4, .int x4)]) hx hb d_M_end_JJZ_5 hl (by decide) rfl (fun ls hl => ?_)
  refine lv_iload hx hb d_M_end_JJZ_7 (lv_at hl 0 rfl) ?_
  refine lv_iconst (v := 2) hx hb d_M_end_JJZ_9 (by decide) ?_
  refine lv_icmp_ne (tgt := 17) hx hb d_M_end_JJZ_10 (by decide) (fun c2 => ?_) (fun c2 => ?_)
  · refine lv_iload hx hb d_M_end_JJZ_17 (lv_at hl 0 rfl) ?_
    refine lv_if_ne (tgt := 38) hx hb d_M_end_JJZ_19 (by decide) (fun c3 => ?_) (fun c3 => ?_)
    · refine lv_iload hx hb d_M_end_JJZ_38 (lv_at hl 0 rfl) ?_
      refine lv_if_ge (tgt := 47) hx hb d_M_end_JJZ_40 (by decide) (fun c4 => ?_) (fun c4 => ?_)
      · refine lv_iconst (v := 0) hx hb d_M_end_JJZ_47 (by decide) ?_
        refine lv_iload hx hb d_M_end_JJZ_48 (lv_at hl 3 rfl) ?_
        refine lv_icmp_eq (tgt := 57) hx hb d_M_end_JJZ_50 (by decide) (fun c5 => ?_) (fun c5 => ?_)
        · refine lv_lload_n hx hb d_M_end_JJZ_57 rfl (lv_at hl 2 rfl) ?_
          exact pu_lret hx hb hr hlocks d_M_end_JJZ_58 (by have qe1 := e1.symm; subst qe1; exact Eq.symm (Eq.trans (if_neg c2) (Eq.trans (if_neg c3) (Eq.trans (if_pos c4) (if_pos c5)))))
        · refine lv_lload_n hx hb d_M_end_JJZ_53 rfl (lv_at hl 1 rfl) ?_
          refine lv_goto (tgt := 58) hx hb d_M_end_JJZ_54 (by decide) ?_
          exact pu_lret hx hb hr hlocks d_M_end_JJZ_58 (by have qe1 := e1.symm; subst qe1; exact Eq.symm (Eq.trans (if_neg c2) (Eq.trans (if_neg c3) (Eq.trans (if_pos c4) (if_neg c5)))))
      · refine lv_iconst (v := 1) hx hb d_M_end_JJZ_43 (by decide) ?_
        refine lv_goto (tgt := 48) hx hb d_M_end_JJZ_44 (by decide) ?_
        refine lv_iload hx hb d_M_end_JJZ_48 (lv_at hl 3 rfl) ?_
        refine lv_icmp_eq (tgt := 57) hx hb d_M_end_JJZ_50 (by decide) (fun c6 => ?_) (fun c6 => ?_)
        · refine lv_lload_n hx hb d_M_end_JJZ_57 rfl (lv_at hl 2 rfl) ?_
          exact pu_lret hx hb hr hlocks d_M_end_JJZ_58 (by have qe1 := e1.symm; subst qe1; exact Eq.symm (Eq.trans (if_neg c2) (Eq.trans (if_neg c3) (Eq.trans (if_neg c4) (if_pos c6)))))
        · refine lv_lload_n hx hb d_M_end_JJZ_53 rfl (lv_at hl 1 rfl) ?_
          refine lv_goto (tgt := 58) hx hb d_M_end_JJZ_54 (by decide) ?_
          exact pu_lret hx hb hr hlocks d_M_end_JJZ_58 (by have qe1 := e1.symm; subst qe1; exact Eq.symm (Eq.trans (if_neg c2) (Eq.trans (if_neg c3) (Eq.trans (if_neg c4) (if_neg c6)))))
    · refine lv_lload_n hx hb d_M_end_JJZ_22 rfl (lv_at hl 1 rfl) ?_
      refine lv_iconst (v := 0) hx hb d_M_end_JJZ_23 (by decide) ?_
      refine pu_i (As := [.long x0, .int (0 : Int32)]) (rest := []) ⟨hx, hb, hml, hown, hts⟩ (c_M_minus_JI l _ x0 (0 : Int32)) pu_pre (gw_call (k := 2) hts tw_519 tw_520 tw_4 tw_521 (by decide +kernel) rfl rfl ⟨Nat.le_of_ble_eq_true rfl, Nat.le_of_ble_eq_true rfl⟩) rfl hl.1 rfl (Nat.le_of_ble_eq_true rfl) ⟨Nat.zero_le _, Nat.zero_le _⟩ d_M_end_JJZ_24 ?_
      refine lv_iload hx hb d_M_end_JJZ_27 (lv_at hl 3 rfl) ?_
      refine lv_icmp_eq (tgt := 36) hx hb d_M_end_JJZ_29 (by decide) (fun c7 => ?_) (fun c7 => ?_)
      · refine lv_lload_n hx hb d_M_end_JJZ_36 rfl (lv_at hl 2 rfl) ?_
        exact pu_lret hx hb hr hlocks d_M_end_JJZ_37 (by have qe1 := e1.symm; subst qe1; exact Eq.symm (Eq.trans (if_neg c2) (Eq.trans (if_pos c3) (if_pos c7))))
      · refine lv_lload_n hx hb d_M_end_JJZ_32 rfl (lv_at hl 1 rfl) ?_
        refine lv_goto (tgt := 37) hx hb d_M_end_JJZ_33 (by decide) ?_
        exact pu_lret hx hb hr hlocks d_M_end_JJZ_37 (by have qe1 := e1.symm; subst qe1; exact Eq.symm (Eq.trans (if_neg c2) (Eq.trans (if_pos c3) (if_neg c7))))
  · refine lv_ldc2 (v := (9221120237041090560 : Int64)) hx hb hown (hts _ (gm tw_514)) d_M_end_JJZ_13 ?_
    exact pu_lret hx hb hr hlocks d_M_end_JJZ_16 (by have qe1 := e1.symm; subst qe1; exact Eq.symm (if_pos c2))
-- ===== MotionLabModel.cutTo(JJJ)J
abbrev y_M_cutTo_JJJ : MethodName := ⟨"MotionLabModel", "cutTo", "(JJJ)J"⟩
abbrev b_M_cutTo_JJJ : ByteArray := prog_6_method_53_code
theorem d_M_cutTo_JJJ_0 : decode b_M_cutTo_JJJ 0 = .ok (.lload_n 0, 1) := by decide +kernel
theorem d_M_cutTo_JJJ_1 : decode b_M_cutTo_JJJ 1 = .ok (.iconst 0, 1) := by decide +kernel
theorem d_M_cutTo_JJJ_2 : decode b_M_cutTo_JJJ 2 = .ok (.invokestatic 56, 3) := by decide +kernel
theorem d_M_cutTo_JJJ_5 : decode b_M_cutTo_JJJ 5 = .ok (.ifCond .eq 5, 3) := by decide +kernel
theorem d_M_cutTo_JJJ_8 : decode b_M_cutTo_JJJ 8 = .ok (.lconst 0, 1) := by decide +kernel
theorem d_M_cutTo_JJJ_9 : decode b_M_cutTo_JJJ 9 = .ok (.lreturn, 1) := by decide +kernel
theorem d_M_cutTo_JJJ_10 : decode b_M_cutTo_JJJ 10 = .ok (.lload_n 0, 1) := by decide +kernel
theorem d_M_cutTo_JJJ_11 : decode b_M_cutTo_JJJ 11 = .ok (.iconst 0, 1) := by decide +kernel
theorem d_M_cutTo_JJJ_12 : decode b_M_cutTo_JJJ 12 = .ok (.invokestatic 76, 3) := by decide +kernel
theorem d_M_cutTo_JJJ_15 : decode b_M_cutTo_JJJ 15 = .ok (.istore 6, 2) := by decide +kernel
theorem d_M_cutTo_JJJ_17 : decode b_M_cutTo_JJJ 17 = .ok (.iload 6, 2) := by decide +kernel
theorem d_M_cutTo_JJJ_19 : decode b_M_cutTo_JJJ 19 = .ok (.ifCond .eq 7, 3) := by decide +kernel
theorem d_M_cutTo_JJJ_22 : decode b_M_cutTo_JJJ 22 = .ok (.lload_n 2, 1) := by decide +kernel
theorem d_M_cutTo_JJJ_23 : decode b_M_cutTo_JJJ 23 = .ok (.goto 5, 3) := by decide +kernel
theorem d_M_cutTo_JJJ_26 : decode b_M_cutTo_JJJ 26 = .ok (.lload 4, 2) := by decide +kernel
theorem d_M_cutTo_JJJ_28 : decode b_M_cutTo_JJJ 28 = .ok (.lstore 7, 2) := by decide +kernel
theorem d_M_cutTo_JJJ_30 : decode b_M_cutTo_JJJ 30 = .ok (.lload_n 0, 1) := by decide +kernel
theorem d_M_cutTo_JJJ_31 : decode b_M_cutTo_JJJ 31 = .ok (.iconst 0, 1) := by decide +kernel
theorem d_M_cutTo_JJJ_32 : decode b_M_cutTo_JJJ 32 = .ok (.invokestatic 63, 3) := by decide +kernel
theorem d_M_cutTo_JJJ_35 : decode b_M_cutTo_JJJ 35 = .ok (.ifCond .eq 6, 3) := by decide +kernel
theorem d_M_cutTo_JJJ_38 : decode b_M_cutTo_JJJ 38 = .ok (.lload 7, 2) := by decide +kernel
theorem d_M_cutTo_JJJ_40 : decode b_M_cutTo_JJJ 40 = .ok (.lreturn, 1) := by decide +kernel
theorem d_M_cutTo_JJJ_41 : decode b_M_cutTo_JJJ 41 = .ok (.lload_n 0, 1) := by decide +kernel
theorem d_M_cutTo_JJJ_42 : decode b_M_cutTo_JJJ 42 = .ok (.iconst 0, 1) := by decide +kernel
theorem d_M_cutTo_JJJ_43 : decode b_M_cutTo_JJJ 43 = .ok (.invokestatic 73, 3) := by decide +kernel
theorem d_M_cutTo_JJJ_46 : decode b_M_cutTo_JJJ 46 = .ok (.lstore 9, 2) := by decide +kernel
theorem d_M_cutTo_JJJ_48 : decode b_M_cutTo_JJJ 48 = .ok (.lload_n 0, 1) := by decide +kernel
theorem d_M_cutTo_JJJ_49 : decode b_M_cutTo_JJJ 49 = .ok (.iconst 0, 1) := by decide +kernel
theorem d_M_cutTo_JJJ_50 : decode b_M_cutTo_JJJ 50 = .ok (.invokestatic 69, 3) := by decide +kernel
theorem d_M_cutTo_JJJ_53 : decode b_M_cutTo_JJJ 53 = .ok (.istore 11, 2) := by decide +kernel
theorem d_M_cutTo_JJJ_55 : decode b_M_cutTo_JJJ 55 = .ok (.iload 11, 2) := by decide +kernel
theorem d_M_cutTo_JJJ_57 : decode b_M_cutTo_JJJ 57 = .ok (.bipush 10, 2) := by decide +kernel
theorem d_M_cutTo_JJJ_59 : decode b_M_cutTo_JJJ 59 = .ok (.if_icmp .le 13, 3) := by decide +kernel
theorem d_M_cutTo_JJJ_62 : decode b_M_cutTo_JJJ 62 = .ok (.lload 9, 2) := by decide +kernel
theorem d_M_cutTo_JJJ_64 : decode b_M_cutTo_JJJ 64 = .ok (.lconst 0, 1) := by decide +kernel
theorem d_M_cutTo_JJJ_65 : decode b_M_cutTo_JJJ 65 = .ok (.lcmp, 1) := by decide +kernel
theorem d_M_cutTo_JJJ_66 : decode b_M_cutTo_JJJ 66 = .ok (.ifCond .eq 6, 3) := by decide +kernel
theorem d_M_cutTo_JJJ_69 : decode b_M_cutTo_JJJ 69 = .ok (.lload 7, 2) := by decide +kernel
theorem d_M_cutTo_JJJ_71 : decode b_M_cutTo_JJJ 71 = .ok (.lreturn, 1) := by decide +kernel
theorem d_M_cutTo_JJJ_72 : decode b_M_cutTo_JJJ 72 = .ok (.iload 11, 2) := by decide +kernel
theorem d_M_cutTo_JJJ_74 : decode b_M_cutTo_JJJ 74 = .ok (.ifCond .lt 11, 3) := by decide +kernel
theorem d_M_cutTo_JJJ_77 : decode b_M_cutTo_JJJ 77 = .ok (.lload 9, 2) := by decide +kernel
theorem d_M_cutTo_JJJ_79 : decode b_M_cutTo_JJJ 79 = .ok (.iload 11, 2) := by decide +kernel
theorem d_M_cutTo_JJJ_81 : decode b_M_cutTo_JJJ 81 = .ok (.lshl, 1) := by decide +kernel
theorem d_M_cutTo_JJJ_82 : decode b_M_cutTo_JJJ 82 = .ok (.goto 20, 3) := by decide +kernel
theorem d_M_cutTo_JJJ_85 : decode b_M_cutTo_JJJ 85 = .ok (.iload 11, 2) := by decide +kernel
theorem d_M_cutTo_JJJ_87 : decode b_M_cutTo_JJJ 87 = .ok (.bipush (-62), 2) := by decide +kernel
theorem d_M_cutTo_JJJ_89 : decode b_M_cutTo_JJJ 89 = .ok (.if_icmp .ge 7, 3) := by decide +kernel
theorem d_M_cutTo_JJJ_92 : decode b_M_cutTo_JJJ 92 = .ok (.lconst 0, 1) := by decide +kernel
theorem d_M_cutTo_JJJ_93 : decode b_M_cutTo_JJJ 93 = .ok (.goto 9, 3) := by decide +kernel
theorem d_M_cutTo_JJJ_96 : decode b_M_cutTo_JJJ 96 = .ok (.lload 9, 2) := by decide +kernel
theorem d_M_cutTo_JJJ_98 : decode b_M_cutTo_JJJ 98 = .ok (.iload 11, 2) := by decide +kernel
theorem d_M_cutTo_JJJ_100 : decode b_M_cutTo_JJJ 100 = .ok (.ineg, 1) := by decide +kernel
theorem d_M_cutTo_JJJ_101 : decode b_M_cutTo_JJJ 101 = .ok (.lshr, 1) := by decide +kernel
theorem d_M_cutTo_JJJ_102 : decode b_M_cutTo_JJJ 102 = .ok (.lstore 12, 2) := by decide +kernel
theorem d_M_cutTo_JJJ_104 : decode b_M_cutTo_JJJ 104 = .ok (.iload 6, 2) := by decide +kernel
theorem d_M_cutTo_JJJ_106 : decode b_M_cutTo_JJJ 106 = .ok (.ifCond .eq 19, 3) := by decide +kernel
theorem d_M_cutTo_JJJ_109 : decode b_M_cutTo_JJJ 109 = .ok (.lload 12, 2) := by decide +kernel
theorem d_M_cutTo_JJJ_111 : decode b_M_cutTo_JJJ 111 = .ok (.lneg, 1) := by decide +kernel
theorem d_M_cutTo_JJJ_112 : decode b_M_cutTo_JJJ 112 = .ok (.lload_n 2, 1) := by decide +kernel
theorem d_M_cutTo_JJJ_113 : decode b_M_cutTo_JJJ 113 = .ok (.lcmp, 1) := by decide +kernel
theorem d_M_cutTo_JJJ_114 : decode b_M_cutTo_JJJ 114 = .ok (.ifCond .ge 7, 3) := by decide +kernel
theorem d_M_cutTo_JJJ_117 : decode b_M_cutTo_JJJ 117 = .ok (.lload_n 2, 1) := by decide +kernel
theorem d_M_cutTo_JJJ_118 : decode b_M_cutTo_JJJ 118 = .ok (.goto 6, 3) := by decide +kernel
theorem d_M_cutTo_JJJ_121 : decode b_M_cutTo_JJJ 121 = .ok (.lload 12, 2) := by decide +kernel
theorem d_M_cutTo_JJJ_123 : decode b_M_cutTo_JJJ 123 = .ok (.lneg, 1) := by decide +kernel
theorem d_M_cutTo_JJJ_124 : decode b_M_cutTo_JJJ 124 = .ok (.lreturn, 1) := by decide +kernel
theorem d_M_cutTo_JJJ_125 : decode b_M_cutTo_JJJ 125 = .ok (.lload 12, 2) := by decide +kernel
theorem d_M_cutTo_JJJ_127 : decode b_M_cutTo_JJJ 127 = .ok (.lload 4, 2) := by decide +kernel
theorem d_M_cutTo_JJJ_129 : decode b_M_cutTo_JJJ 129 = .ok (.lcmp, 1) := by decide +kernel
theorem d_M_cutTo_JJJ_130 : decode b_M_cutTo_JJJ 130 = .ok (.ifCond .le 8, 3) := by decide +kernel
theorem d_M_cutTo_JJJ_133 : decode b_M_cutTo_JJJ 133 = .ok (.lload 4, 2) := by decide +kernel
theorem d_M_cutTo_JJJ_135 : decode b_M_cutTo_JJJ 135 = .ok (.goto 5, 3) := by decide +kernel
theorem d_M_cutTo_JJJ_138 : decode b_M_cutTo_JJJ 138 = .ok (.lload 12, 2) := by decide +kernel
theorem d_M_cutTo_JJJ_140 : decode b_M_cutTo_JJJ 140 = .ok (.lreturn, 1) := by decide +kernel
def f_M_cutTo_JJJ_102 (x2 : Int64) (x4 : Int64) (x6 : Int32) (s0 : Int64) : Int64 :=
  if x6 = 0 then
    if (lg_cmp s0 x4) ≤ 0 then
      s0
    else
      x4
  else
    if 0 ≤ (lg_cmp (-s0) x2) then
      -s0
    else
      x2
set_option maxHeartbeats 4000000 in
set_option maxRecDepth 100000 in
theorem k_M_cutTo_JJJ_102 {p : Program} {l : Launch} {e : Env} {s : State} {m : MethodId} {args : Array Value} {below : List Frame} {meth : Method} {c : Code} (C0 : pu_C p s m args meth c b_M_cutTo_JJJ 14 "MotionLabModel" (some .long) (gw y_M_cutTo_JJJ b_M_cutTo_JJJ 14 (some .long))) {t0 t1 t2 : Nat} (hRT : RTH t0 t1 t2 s s.heap) (x2 : Int64) (x4 : Int64) (x6 : Int32) (s0 : Int64) (ls : Array Slot) (hl : lv_has ls 14 [(2, .long x2), (4, .long x4), (6, .int x6)]) {w : Int64} (hw : w = f_M_cutTo_JJJ_102 x2 x4 x6 s0) : W p l e (headSpec (gw y_M_cutTo_JJJ b_M_cutTo_JJJ 14 (some .long)) ({ frames := 3, cells := 0, slots := 0, locals := 69 } : Room)).room s m args below meth c s.heap [] 0 0 (pu_Ql w below args s) (F0 m 102 ls [.long s0]) := by
  obtain ⟨hx, hb, hml, hown, hts, hr, hlocks⟩ := id C0
  obtain ⟨hT0, hT1, hT2⟩ := id hRT
  refine lv_lstore (lv' := [(12, .long s0), (2, .long x2), (4, .long x4), (6, .int x6)]) hx hb d_M_cutTo_JJJ_102 hl (by decide) rfl (fun ls hl => ?_)
  refine lv_iload hx hb d_M_cutTo_JJJ_104 (lv_at hl 3 rfl) ?_
  refine lv_if_eq (tgt := 125) hx hb d_M_cutTo_JJJ_106 (by decide) (fun c1 => ?_) (fun c1 => ?_)
  · refine lv_lload hx hb d_M_cutTo_JJJ_125 (lv_at hl 0 rfl) ?_
    refine lv_lload hx hb d_M_cutTo_JJJ_127 (lv_at hl 2 rfl) ?_
    refine W.lcmp hx hb d_M_cutTo_JJJ_129 ?_
    refine lv_if_le (tgt := 138) hx hb d_M_cutTo_JJJ_130 (by decide) (fun c2 => ?_) (fun c2 => ?_)
    · refine lv_lload hx hb d_M_cutTo_JJJ_138 (lv_at hl 0 rfl) ?_
      exact pu_lret hx hb hr hlocks d_M_cutTo_JJJ_140 (by exact Eq.symm (hw.trans (Eq.trans (if_pos c1) (if_pos c2))))
    · refine lv_lload hx hb d_M_cutTo_JJJ_133 (lv_at hl 2 rfl) ?_
      refine lv_goto (tgt := 140) hx hb d_M_cutTo_JJJ_135 (by decide) ?_
      exact pu_lret hx hb hr hlocks d_M_cutTo_JJJ_140 (by exact Eq.symm (hw.trans (Eq.trans (if_pos c1) (if_neg c2))))
  · refine lv_lload hx hb d_M_cutTo_JJJ_109 (lv_at hl 0 rfl) ?_
    refine lv_lneg hx hb d_M_cutTo_JJJ_111 ?_
    refine lv_lload_n hx hb d_M_cutTo_JJJ_112 rfl (lv_at hl 1 rfl) ?_
    refine W.lcmp hx hb d_M_cutTo_JJJ_113 ?_
    refine lv_if_ge (tgt := 121) hx hb d_M_cutTo_JJJ_114 (by decide) (fun c3 => ?_) (fun c3 => ?_)
    · refine lv_lload hx hb d_M_cutTo_JJJ_121 (lv_at hl 0 rfl) ?_
      refine lv_lneg hx hb d_M_cutTo_JJJ_123 ?_
      exact pu_lret hx hb hr hlocks d_M_cutTo_JJJ_124 (by exact Eq.symm (hw.trans (Eq.trans (if_neg c1) (if_pos c3))))
    · refine lv_lload_n hx hb d_M_cutTo_JJJ_117 rfl (lv_at hl 1 rfl) ?_
      refine lv_goto (tgt := 124) hx hb d_M_cutTo_JJJ_118 (by decide) ?_
      exact pu_lret hx hb hr hlocks d_M_cutTo_JJJ_124 (by exact Eq.symm (hw.trans (Eq.trans (if_neg c1) (if_neg c3))))
def f_M_cutTo_JJJ_72 (x2 : Int64) (x4 : Int64) (x6 : Int32) (x9 : Int64) (x11 : Int32) : Int64 :=
  if x11 < 0 then
    if (-62 : Int32) ≤ x11 then
      f_M_cutTo_JJJ_102 x2 x4 x6 (j_shr x9 (-x11))
    else
      f_M_cutTo_JJJ_102 x2 x4 x6 (0 : Int64)
  else
    f_M_cutTo_JJJ_102 x2 x4 x6 (j_shl x9 x11)
set_option maxHeartbeats 4000000 in
set_option maxRecDepth 100000 in
theorem k_M_cutTo_JJJ_72 {p : Program} {l : Launch} {e : Env} {s : State} {m : MethodId} {args : Array Value} {below : List Frame} {meth : Method} {c : Code} (C0 : pu_C p s m args meth c b_M_cutTo_JJJ 14 "MotionLabModel" (some .long) (gw y_M_cutTo_JJJ b_M_cutTo_JJJ 14 (some .long))) {t0 t1 t2 : Nat} (hRT : RTH t0 t1 t2 s s.heap) (x2 : Int64) (x4 : Int64) (x6 : Int32) (x9 : Int64) (x11 : Int32) (ls : Array Slot) (hl : lv_has ls 14 [(2, .long x2), (4, .long x4), (6, .int x6), (9, .long x9), (11, .int x11)]) {w : Int64} (hw : w = f_M_cutTo_JJJ_72 x2 x4 x6 x9 x11) : W p l e (headSpec (gw y_M_cutTo_JJJ b_M_cutTo_JJJ 14 (some .long)) ({ frames := 3, cells := 0, slots := 0, locals := 69 } : Room)).room s m args below meth c s.heap [] 0 0 (pu_Ql w below args s) (F0 m 72 ls []) := by
  obtain ⟨hx, hb, hml, hown, hts, hr, hlocks⟩ := id C0
  obtain ⟨hT0, hT1, hT2⟩ := id hRT
  refine lv_iload hx hb d_M_cutTo_JJJ_72 (lv_at hl 4 rfl) ?_
  refine lv_if_lt (tgt := 85) hx hb d_M_cutTo_JJJ_74 (by decide) (fun c1 => ?_) (fun c1 => ?_)
  · refine lv_iload hx hb d_M_cutTo_JJJ_85 (lv_at hl 4 rfl) ?_
    refine lv_bipush (v := (-62 : Int32)) hx hb d_M_cutTo_JJJ_87 (by decide) ?_
    refine lv_icmp_ge (tgt := 96) hx hb d_M_cutTo_JJJ_89 (by decide) (fun c2 => ?_) (fun c2 => ?_)
    · refine lv_lload hx hb d_M_cutTo_JJJ_96 (lv_at hl 3 rfl) ?_
      refine lv_iload hx hb d_M_cutTo_JJJ_98 (lv_at hl 4 rfl) ?_
      refine lv_ineg hx hb d_M_cutTo_JJJ_100 ?_
      refine lv_lshr (v := j_shr x9 (-x11)) hx hb d_M_cutTo_JJJ_101 rfl ?_
      exact k_M_cutTo_JJJ_102 C0 hRT x2 x4 x6 (j_shr x9 (-x11)) ls (lv_sub hl [0, 1, 2] rfl) (by exact (hw.trans (Eq.trans (if_pos c1) (if_pos c2))))
    · refine lv_lconst (v := (0 : Int64)) hx hb d_M_cutTo_JJJ_92 (by decide) ?_
      refine lv_goto (tgt := 102) hx hb d_M_cutTo_JJJ_93 (by decide) ?_
      exact k_M_cutTo_JJJ_102 C0 hRT x2 x4 x6 (0 : Int64) ls (lv_sub hl [0, 1, 2] rfl) (by exact (hw.trans (Eq.trans (if_pos c1) (if_neg c2))))
  · refine lv_lload hx hb d_M_cutTo_JJJ_77 (lv_at hl 3 rfl) ?_
    refine lv_iload hx hb d_M_cutTo_JJJ_79 (lv_at hl 4 rfl) ?_
    refine lv_lshl (v := j_shl x9 x11) hx hb d_M_cutTo_JJJ_81 rfl ?_
    refine lv_goto (tgt := 102) hx hb d_M_cutTo_JJJ_82 (by decide) ?_
    exact k_M_cutTo_JJJ_102 C0 hRT x2 x4 x6 (j_shl x9 x11) ls (lv_sub hl [0, 1, 2] rfl) (by exact (hw.trans (if_neg c1)))
def f_M_cutTo_JJJ_28 (x0 : Int64) (x2 : Int64) (x4 : Int64) (x6 : Int32) (s0 : Int64) : Int64 :=
  if (f_M_isInfinite_JI x0 (0 : Int32)) = 0 then
    let v2 : Int64 := f_M_whole_JI x0 (0 : Int32)
    let v3 : Int32 := f_M_power_JI x0 (0 : Int32)
    if v3 ≤ (10 : Int32) then
      f_M_cutTo_JJJ_72 x2 x4 x6 v2 v3
    else
      if (lg_cmp v2 (0 : Int64)) = 0 then
        f_M_cutTo_JJJ_72 x2 x4 x6 v2 v3
      else
        s0
  else
    s0
set_option maxHeartbeats 4000000 in
set_option maxRecDepth 100000 in
theorem k_M_cutTo_JJJ_28 {p : Program} {l : Launch} {e : Env} {s : State} {m : MethodId} {args : Array Value} {below : List Frame} {meth : Method} {c : Code} (C0 : pu_C p s m args meth c b_M_cutTo_JJJ 14 "MotionLabModel" (some .long) (gw y_M_cutTo_JJJ b_M_cutTo_JJJ 14 (some .long))) {t0 t1 t2 : Nat} (hRT : RTH t0 t1 t2 s s.heap) (x0 : Int64) (x2 : Int64) (x4 : Int64) (x6 : Int32) (s0 : Int64) (ls : Array Slot) (hl : lv_has ls 14 [(0, .long x0), (2, .long x2), (4, .long x4), (6, .int x6)]) {w : Int64} (hw : w = f_M_cutTo_JJJ_28 x0 x2 x4 x6 s0) : W p l e (headSpec (gw y_M_cutTo_JJJ b_M_cutTo_JJJ 14 (some .long)) ({ frames := 3, cells := 0, slots := 0, locals := 69 } : Room)).room s m args below meth c s.heap [] 0 0 (pu_Ql w below args s) (F0 m 28 ls [.long s0]) := by
  obtain ⟨hx, hb, hml, hown, hts, hr, hlocks⟩ := id C0
  obtain ⟨hT0, hT1, hT2⟩ := id hRT
  refine lv_lstore (lv' := [(7, .long s0), (0, .long x0), (2, .long x2), (4, .long x4), (6, .int x6)]) hx hb d_M_cutTo_JJJ_28 hl (by decide) rfl (fun ls hl => ?_)
  refine lv_lload_n hx hb d_M_cutTo_JJJ_30 rfl (lv_at hl 1 rfl) ?_
  refine lv_iconst (v := 0) hx hb d_M_cutTo_JJJ_31 (by decide) ?_
  refine pu_i (As := [.long x0, .int (0 : Int32)]) (rest := []) ⟨hx, hb, hml, hown, hts⟩ (c_M_isInfinite_JI l _ x0 (0 : Int32)) pu_pre (gw_call (k := 2) hts tw_516 tw_517 tw_4 tw_518 (by decide +kernel) rfl rfl ⟨Nat.le_of_ble_eq_true rfl, Nat.le_of_ble_eq_true rfl⟩) rfl hl.1 rfl (Nat.le_of_ble_eq_true rfl) ⟨Nat.zero_le _, Nat.zero_le _⟩ d_M_cutTo_JJJ_32 ?_
  refine lv_if_eq (tgt := 41) hx hb d_M_cutTo_JJJ_35 (by decide) (fun c1 => ?_) (fun c1 => ?_)
  · refine lv_lload_n hx hb d_M_cutTo_JJJ_41 rfl (lv_at hl 1 rfl) ?_
    refine lv_iconst (v := 0) hx hb d_M_cutTo_JJJ_42 (by decide) ?_
    refine pu_l (As := [.long x0, .int (0 : Int32)]) (rest := []) ⟨hx, hb, hml, hown, hts⟩ (c_M_whole_JI l _ t0 t1 t2 x0 (0 : Int32) (in_of (by decide) (by decide))) (pr_pre hRT) (gw_call (k := 2) hts tw_525 tw_526 tw_4 tw_527 (by decide +kernel) rfl rfl ⟨Nat.le_of_ble_eq_true rfl, Nat.le_of_ble_eq_true rfl⟩) rfl hl.1 rfl (Nat.le_of_ble_eq_true rfl) ⟨Nat.zero_le _, Nat.zero_le _⟩ d_M_cutTo_JJJ_43 ?_
    refine lv_topl (fun v2 e2 => ?_)
    refine lv_lstore (lv' := [(9, .long v2), (7, .long s0), (0, .long x0), (2, .long x2), (4, .long x4), (6, .int x6)]) hx hb d_M_cutTo_JJJ_46 hl (by decide) rfl (fun ls hl => ?_)
    refine lv_lload_n hx hb d_M_cutTo_JJJ_48 rfl (lv_at hl 2 rfl) ?_
    refine lv_iconst (v := 0) hx hb d_M_cutTo_JJJ_49 (by decide) ?_
    refine pu_i (As := [.long x0, .int (0 : Int32)]) (rest := []) ⟨hx, hb, hml, hown, hts⟩ (c_M_power_JI l _ t0 t1 t2 x0 (0 : Int32) (in_of (by decide) (by decide))) (pr_pre hRT) (gw_call (k := 2) hts tw_530 tw_531 tw_4 tw_532 (by decide +kernel) rfl rfl ⟨Nat.le_of_ble_eq_true rfl, Nat.le_of_ble_eq_true rfl⟩) rfl hl.1 rfl (Nat.le_of_ble_eq_true rfl) ⟨Nat.zero_le _, Nat.zero_le _⟩ d_M_cutTo_JJJ_50 ?_
    refine lv_topi (fun v3 e3 => ?_)
    refine lv_istore (lv' := [(11, .int v3), (9, .long v2), (7, .long s0), (0, .long x0), (2, .long x2), (4, .long x4), (6, .int x6)]) hx hb d_M_cutTo_JJJ_53 hl (by decide) rfl (fun ls hl => ?_)
    refine lv_iload hx hb d_M_cutTo_JJJ_55 (lv_at hl 0 rfl) ?_
    refine lv_bipush (v := (10 : Int32)) hx hb d_M_cutTo_JJJ_57 (by decide) ?_
    refine lv_icmp_le (tgt := 72) hx hb d_M_cutTo_JJJ_59 (by decide) (fun c4 => ?_) (fun c4 => ?_)
    · exact k_M_cutTo_JJJ_72 C0 hRT x2 x4 x6 v2 v3 ls (lv_sub hl [4, 5, 6, 1, 0] rfl) (by have qe2 := e2.symm; have qe3 := e3.symm; subst qe2 qe3; exact (hw.trans (Eq.trans (if_pos c1) (if_pos c4))))
    · refine lv_lload hx hb d_M_cutTo_JJJ_62 (lv_at hl 1 rfl) ?_
      refine lv_lconst (v := (0 : Int64)) hx hb d_M_cutTo_JJJ_64 (by decide) ?_
      refine W.lcmp hx hb d_M_cutTo_JJJ_65 ?_
      refine lv_if_eq (tgt := 72) hx hb d_M_cutTo_JJJ_66 (by decide) (fun c5 => ?_) (fun c5 => ?_)
      · exact k_M_cutTo_JJJ_72 C0 hRT x2 x4 x6 v2 v3 ls (lv_sub hl [4, 5, 6, 1, 0] rfl) (by have qe2 := e2.symm; have qe3 := e3.symm; subst qe2 qe3; exact (hw.trans (Eq.trans (if_pos c1) (Eq.trans (if_neg c4) (if_pos c5)))))
      · refine lv_lload hx hb d_M_cutTo_JJJ_69 (lv_at hl 2 rfl) ?_
        exact pu_lret hx hb hr hlocks d_M_cutTo_JJJ_71 (by have qe2 := e2.symm; have qe3 := e3.symm; subst qe2 qe3; exact Eq.symm (hw.trans (Eq.trans (if_pos c1) (Eq.trans (if_neg c4) (if_neg c5)))))
  · refine lv_lload hx hb d_M_cutTo_JJJ_38 (lv_at hl 0 rfl) ?_
    exact pu_lret hx hb hr hlocks d_M_cutTo_JJJ_40 (by exact Eq.symm (hw.trans (if_neg c1)))
def f_M_cutTo_JJJ (x0 : Int64) (x2 : Int64) (x4 : Int64) : Int64 :=
  if (f_M_isNone_JI x0 (0 : Int32)) = 0 then
    let v2 : Int32 := f_M_minus_JI x0 (0 : Int32)
    if v2 = 0 then
      f_M_cutTo_JJJ_28 x0 x2 x4 v2 x4
    else
      f_M_cutTo_JJJ_28 x0 x2 x4 v2 x2
  else
    (0 : Int64)
set_option maxHeartbeats 4000000 in
set_option maxRecDepth 100000 in
theorem c_M_cutTo_JJJ (l : Launch) (h : Heap) (t0 t1 t2 : Nat) (x0 : Int64) (x2 : Int64) (x4 : Int64) : Met l y_M_cutTo_JJJ (gw y_M_cutTo_JJJ b_M_cutTo_JJJ 14 (some .long)) { frames := 3, cells := 0, slots := 0, locals := 69 } (pr_Pc [.long x0, .long x2, .long x4] h t0 t1 t2) (pu_Ml (f_M_cutTo_JJJ x0 x2 x4) h) 0 0 (fun _ => False) := by
  refine Met.ofW (cc := b_M_cutTo_JJJ) (maxL := 14) (ret := (some .long)) (by decide) rfl ?_
  intro p e s m args below meth c s₁ B hml hv
  obtain ⟨rfl, hh, hRT⟩ := hv
  subst hh
  obtain ⟨hT0, hT1, hT2⟩ := id hRT
  have hx := B.exec
  have hb := B.bytes
  have hr := B.returns
  have hts := atoms_spec (ws := (gw y_M_cutTo_JJJ b_M_cutTo_JJJ 14 (some .long))) B.pre
  have hown : s.vm.findClass "MotionLabModel" = some m.cls := findClass_of_methodNamed B.named
  have hlocks := B.notSynchronized
  have C0 : pu_C p s m _ meth c b_M_cutTo_JJJ 14 "MotionLabModel" (some .long) (gw y_M_cutTo_JJJ b_M_cutTo_JJJ 14 (some .long)) := ⟨hx, hb, hml, hown, hts, hr, hlocks⟩
  have hl := lv_entry ([.long x0, .long x2, .long x4]) (n := 14) (Nat.le_of_ble_eq_true rfl)
  rw [lg_entry_eq]
  generalize (lg_sl ([.long x0, .long x2, .long x4]) ++ List.replicate (14 - (lg_sl ([.long x0, .long x2, .long x4])).length) Slot.unset).toArray = ls at hl ⊢
  have hl : lv_has ls 14 [(0, .long x0), (2, .long x2), (4, .long x4)] := hl
  refine lv_lload_n hx hb d_M_cutTo_JJJ_0 rfl (lv_at hl 0 rfl) ?_
  refine lv_iconst (v := 0) hx hb d_M_cutTo_JJJ_1 (by decide) ?_
  refine pu_i (As := [.long x0, .int (0 : Int32)]) (rest := []) ⟨hx, hb, hml, hown, hts⟩ (c_M_isNone_JI l _ x0 (0 : Int32)) pu_pre (gw_call (k := 2) hts tw_498 tw_499 tw_4 tw_500 (by decide +kernel) rfl rfl ⟨Nat.le_of_ble_eq_true rfl, Nat.le_of_ble_eq_true rfl⟩) rfl hl.1 rfl (Nat.le_of_ble_eq_true rfl) ⟨Nat.zero_le _, Nat.zero_le _⟩ d_M_cutTo_JJJ_2 ?_
  refine lv_if_eq (tgt := 10) hx hb d_M_cutTo_JJJ_5 (by decide) (fun c1 => ?_) (fun c1 => ?_)
  · refine lv_lload_n hx hb d_M_cutTo_JJJ_10 rfl (lv_at hl 0 rfl) ?_
    refine lv_iconst (v := 0) hx hb d_M_cutTo_JJJ_11 (by decide) ?_
    refine pu_i (As := [.long x0, .int (0 : Int32)]) (rest := []) ⟨hx, hb, hml, hown, hts⟩ (c_M_minus_JI l _ x0 (0 : Int32)) pu_pre (gw_call (k := 2) hts tw_519 tw_520 tw_4 tw_521 (by decide +kernel) rfl rfl ⟨Nat.le_of_ble_eq_true rfl, Nat.le_of_ble_eq_true rfl⟩) rfl hl.1 rfl (Nat.le_of_ble_eq_true rfl) ⟨Nat.zero_le _, Nat.zero_le _⟩ d_M_cutTo_JJJ_12 ?_
    refine lv_topi (fun v2 e2 => ?_)
    refine lv_istore (lv' := [(6, .int v2), (0, .long x0), (2, .long x2), (4, .long x4)]) hx hb d_M_cutTo_JJJ_15 hl (by decide) rfl (fun ls hl => ?_)
    refine lv_iload hx hb d_M_cutTo_JJJ_17 (lv_at hl 0 rfl) ?_
    refine lv_if_eq (tgt := 26) hx hb d_M_cutTo_JJJ_19 (by decide) (fun c3 => ?_) (fun c3 => ?_)
    · refine lv_lload hx hb d_M_cutTo_JJJ_26 (lv_at hl 3 rfl) ?_
      exact k_M_cutTo_JJJ_28 C0 hRT x0 x2 x4 v2 x4 ls (lv_sub hl [1, 2, 3, 0] rfl) (by have qe2 := e2.symm; subst qe2; exact (Eq.trans (if_pos c1) (if_pos c3)))
    · refine lv_lload_n hx hb d_M_cutTo_JJJ_22 rfl (lv_at hl 2 rfl) ?_
      refine lv_goto (tgt := 28) hx hb d_M_cutTo_JJJ_23 (by decide) ?_
      exact k_M_cutTo_JJJ_28 C0 hRT x0 x2 x4 v2 x2 ls (lv_sub hl [1, 2, 3, 0] rfl) (by have qe2 := e2.symm; subst qe2; exact (Eq.trans (if_pos c1) (if_neg c3)))
  · refine lv_lconst (v := (0 : Int64)) hx hb d_M_cutTo_JJJ_8 (by decide) ?_
    exact pu_lret hx hb hr hlocks d_M_cutTo_JJJ_9 (by exact Eq.symm (if_neg c1))
