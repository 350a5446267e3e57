-- ===== MotionLab$Plane.isBody(I)Z
abbrev y_P_isBody_I : MethodName := ⟨"MotionLab$Plane", "isBody", "(I)Z"⟩
abbrev b_P_isBody_I : ByteArray := prog_3_method_2_code
theorem d_P_isBody_I_0 : decode b_P_isBody_I 0 = .ok (.iload_n 0, 1) := by decide +kernel
theorem d_P_isBody_I_1 : decode b_P_isBody_I 1 = .ok (.ifCond .lt 13, 3) := by decide +kernel
theorem d_P_isBody_I_4 : decode b_P_isBody_I 4 = .ok (.iload_n 0, 1) := by decide +kernel
theorem d_P_isBody_I_5 : decode b_P_isBody_I 5 = .ok (.bipush 8, 2) := by decide +kernel
theorem d_P_isBody_I_7 : decode b_P_isBody_I 7 = .ok (.if_icmp .ge 7, 3) := by decide +kernel
theorem d_P_isBody_I_10 : decode b_P_isBody_I 10 = .ok (.iconst 1, 1) := by decide +kernel
theorem d_P_isBody_I_11 : decode b_P_isBody_I 11 = .ok (.goto 4, 3) := by decide +kernel
theorem d_P_isBody_I_14 : decode b_P_isBody_I 14 = .ok (.iconst 0, 1) := by decide +kernel
theorem d_P_isBody_I_15 : decode b_P_isBody_I 15 = .ok (.ireturn, 1) := by decide +kernel
def f_P_isBody_I (x0 : Int32) : Int32 :=
  if x0 < 0 then
    (0 : Int32)
  else
    if (8 : Int32) ≤ x0 then
      (0 : Int32)
    else
      (1 : Int32)
set_option maxHeartbeats 4000000 in
set_option maxRecDepth 100000 in
theorem c_P_isBody_I (l : Launch) (h : Heap) (x0 : Int32) : Met l y_P_isBody_I (gw y_P_isBody_I b_P_isBody_I 1 (some .boolean)) { frames := 0, cells := 0, slots := 0, locals := 0 } (pu_Pc [.int x0] h) (pu_Mi (f_P_isBody_I x0) h) 0 0 (fun _ => False) := by
  refine Met.ofW (cc := b_P_isBody_I) (maxL := 1) (ret := (some .boolean)) (by decide) rfl ?_
  intro p e s m args below meth c s₁ B hml hv
  obtain ⟨rfl, hh⟩ := hv
  subst hh
  have hx := B.exec
  have hb := B.bytes
  have hr := B.returns
  have hts := atoms_spec (ws := (gw y_P_isBody_I b_P_isBody_I 1 (some .boolean))) B.pre
  have hown : s.vm.findClass "MotionLab$Plane" = some m.cls := findClass_of_methodNamed B.named
  have hlocks := B.notSynchronized
  have C0 : pu_C p s m _ meth c b_P_isBody_I 1 "MotionLab$Plane" (some .boolean) (gw y_P_isBody_I b_P_isBody_I 1 (some .boolean)) := ⟨hx, hb, hml, hown, hts, hr, hlocks⟩
  have hl := lv_entry ([.int x0]) (n := 1) (Nat.le_of_ble_eq_true rfl)
  rw [lg_entry_eq]
  generalize (lg_sl ([.int x0]) ++ List.replicate (1 - (lg_sl ([.int x0])).length) Slot.unset).toArray = ls at hl ⊢
  have hl : lv_has ls 1 [(0, .int x0)] := hl
  refine lv_iload_n hx hb d_P_isBody_I_0 rfl (lv_at hl 0 rfl) ?_
  refine lv_if_lt (tgt := 14) hx hb d_P_isBody_I_1 (by decide) (fun c1 => ?_) (fun c1 => ?_)
  · refine lv_iconst (v := 0) hx hb d_P_isBody_I_14 (by decide) ?_
    exact pu_zret hx hb hr rfl hlocks d_P_isBody_I_15 (by exact Eq.symm (if_pos c1))
  · refine lv_iload_n hx hb d_P_isBody_I_4 rfl (lv_at hl 0 rfl) ?_
    refine lv_bipush (v := (8 : Int32)) hx hb d_P_isBody_I_5 (by decide) ?_
    refine lv_icmp_ge (tgt := 14) hx hb d_P_isBody_I_7 (by decide) (fun c2 => ?_) (fun c2 => ?_)
    · refine lv_iconst (v := 0) hx hb d_P_isBody_I_14 (by decide) ?_
      exact pu_zret hx hb hr rfl hlocks d_P_isBody_I_15 (by exact Eq.symm (Eq.trans (if_neg c1) (if_pos c2)))
    · refine lv_iconst (v := 1) hx hb d_P_isBody_I_10 (by decide) ?_
      refine lv_goto (tgt := 15) hx hb d_P_isBody_I_11 (by decide) ?_
      exact pu_zret hx hb hr rfl hlocks d_P_isBody_I_15 (by exact Eq.symm (Eq.trans (if_neg c1) (if_neg c2)))
-- ===== MotionLab$Plane.isBodyNumber(I)Z
abbrev y_P_isBodyNumber_I : MethodName := ⟨"MotionLab$Plane", "isBodyNumber", "(I)Z"⟩
abbrev b_P_isBodyNumber_I : ByteArray := prog_3_method_3_code
theorem d_P_isBodyNumber_I_0 : decode b_P_isBodyNumber_I 0 = .ok (.iload_n 0, 1) := by decide +kernel
theorem d_P_isBodyNumber_I_1 : decode b_P_isBodyNumber_I 1 = .ok (.ifCond .lt 13, 3) := by decide +kernel
theorem d_P_isBodyNumber_I_4 : decode b_P_isBodyNumber_I 4 = .ok (.iload_n 0, 1) := by decide +kernel
theorem d_P_isBodyNumber_I_5 : decode b_P_isBodyNumber_I 5 = .ok (.bipush 6, 2) := by decide +kernel
theorem d_P_isBodyNumber_I_7 : decode b_P_isBodyNumber_I 7 = .ok (.if_icmp .ge 7, 3) := by decide +kernel
theorem d_P_isBodyNumber_I_10 : decode b_P_isBodyNumber_I 10 = .ok (.iconst 1, 1) := by decide +kernel
theorem d_P_isBodyNumber_I_11 : decode b_P_isBodyNumber_I 11 = .ok (.goto 4, 3) := by decide +kernel
theorem d_P_isBodyNumber_I_14 : decode b_P_isBodyNumber_I 14 = .ok (.iconst 0, 1) := by decide +kernel
theorem d_P_isBodyNumber_I_15 : decode b_P_isBodyNumber_I 15 = .ok (.ireturn, 1) := by decide +kernel
def f_P_isBodyNumber_I (x0 : Int32) : Int32 :=
  if x0 < 0 then
    (0 : Int32)
  else
    if (6 : Int32) ≤ x0 then
      (0 : Int32)
    else
      (1 : Int32)
set_option maxHeartbeats 4000000 in
set_option maxRecDepth 100000 in
theorem c_P_isBodyNumber_I (l : Launch) (h : Heap) (x0 : Int32) : Met l y_P_isBodyNumber_I (gw y_P_isBodyNumber_I b_P_isBodyNumber_I 1 (some .boolean)) { frames := 0, cells := 0, slots := 0, locals := 0 } (pu_Pc [.int x0] h) (pu_Mi (f_P_isBodyNumber_I x0) h) 0 0 (fun _ => False) := by
  refine Met.ofW (cc := b_P_isBodyNumber_I) (maxL := 1) (ret := (some .boolean)) (by decide) rfl ?_
  intro p e s m args below meth c s₁ B hml hv
  obtain ⟨rfl, hh⟩ := hv
  subst hh
  have hx := B.exec
  have hb := B.bytes
  have hr := B.returns
  have hts := atoms_spec (ws := (gw y_P_isBodyNumber_I b_P_isBodyNumber_I 1 (some .boolean))) B.pre
  have hown : s.vm.findClass "MotionLab$Plane" = some m.cls := findClass_of_methodNamed B.named
  have hlocks := B.notSynchronized
  have C0 : pu_C p s m _ meth c b_P_isBodyNumber_I 1 "MotionLab$Plane" (some .boolean) (gw y_P_isBodyNumber_I b_P_isBodyNumber_I 1 (some .boolean)) := ⟨hx, hb, hml, hown, hts, hr, hlocks⟩
  have hl := lv_entry ([.int x0]) (n := 1) (Nat.le_of_ble_eq_true rfl)
  rw [lg_entry_eq]
  generalize (lg_sl ([.int x0]) ++ List.replicate (1 - (lg_sl ([.int x0])).length) Slot.unset).toArray = ls at hl ⊢
  have hl : lv_has ls 1 [(0, .int x0)] := hl
  refine lv_iload_n hx hb d_P_isBodyNumber_I_0 rfl (lv_at hl 0 rfl) ?_
  refine lv_if_lt (tgt := 14) hx hb d_P_isBodyNumber_I_1 (by decide) (fun c1 => ?_) (fun c1 => ?_)
  · refine lv_iconst (v := 0) hx hb d_P_isBodyNumber_I_14 (by decide) ?_
    exact pu_zret hx hb hr rfl hlocks d_P_isBodyNumber_I_15 (by exact Eq.symm (if_pos c1))
  · refine lv_iload_n hx hb d_P_isBodyNumber_I_4 rfl (lv_at hl 0 rfl) ?_
    refine lv_bipush (v := (6 : Int32)) hx hb d_P_isBodyNumber_I_5 (by decide) ?_
    refine lv_icmp_ge (tgt := 14) hx hb d_P_isBodyNumber_I_7 (by decide) (fun c2 => ?_) (fun c2 => ?_)
    · refine lv_iconst (v := 0) hx hb d_P_isBodyNumber_I_14 (by decide) ?_
      exact pu_zret hx hb hr rfl hlocks d_P_isBodyNumber_I_15 (by exact Eq.symm (Eq.trans (if_neg c1) (if_pos c2)))
    · refine lv_iconst (v := 1) hx hb d_P_isBodyNumber_I_10 (by decide) ?_
      refine lv_goto (tgt := 15) hx hb d_P_isBodyNumber_I_11 (by decide) ?_
      exact pu_zret hx hb hr rfl hlocks d_P_isBodyNumber_I_15 (by exact Eq.symm (Eq.trans (if_neg c1) (if_neg c2)))
-- ===== MotionLab$Ieee.isFinite(J)Z
abbrev y_I_isFinite_J : MethodName := ⟨"MotionLab$Ieee", "isFinite", "(J)Z"⟩
abbrev b_I_isFinite_J : ByteArray := prog_2_method_5_code
theorem d_I_isFinite_J_0 : decode b_I_isFinite_J 0 = .ok (.lload_n 0, 1) := by decide +kernel
theorem d_I_isFinite_J_1 : decode b_I_isFinite_J 1 = .ok (.ldc2_w 9, 3) := by decide +kernel
theorem d_I_isFinite_J_4 : decode b_I_isFinite_J 4 = .ok (.land, 1) := by decide +kernel
theorem d_I_isFinite_J_5 : decode b_I_isFinite_J 5 = .ok (.ldc2_w 11, 3) := by decide +kernel
theorem d_I_isFinite_J_8 : decode b_I_isFinite_J 8 = .ok (.lcmp, 1) := by decide +kernel
theorem d_I_isFinite_J_9 : decode b_I_isFinite_J 9 = .ok (.ifCond .ge 7, 3) := by decide +kernel
theorem d_I_isFinite_J_12 : decode b_I_isFinite_J 12 = .ok (.iconst 1, 1) := by decide +kernel
theorem d_I_isFinite_J_13 : decode b_I_isFinite_J 13 = .ok (.goto 4, 3) := by decide +kernel
theorem d_I_isFinite_J_16 : decode b_I_isFinite_J 16 = .ok (.iconst 0, 1) := by decide +kernel
theorem d_I_isFinite_J_17 : decode b_I_isFinite_J 17 = .ok (.ireturn, 1) := by decide +kernel
def f_I_isFinite_J (x0 : Int64) : Int32 :=
  if 0 ≤ (lg_cmp (x0 &&& (9223372036854775807 : Int64)) (9218868437227405312 : Int64)) then
    (0 : Int32)
  else
    (1 : Int32)
set_option maxHeartbeats 4000000 in
set_option maxRecDepth 100000 in
theorem c_I_isFinite_J (l : Launch) (h : Heap) (x0 : Int64) : Met l y_I_isFinite_J (gw y_I_isFinite_J b_I_isFinite_J 2 (some .boolean)) { frames := 0, cells := 0, slots := 0, locals := 0 } (pu_Pc [.long x0] h) (pu_Mi (f_I_isFinite_J x0) h) 0 0 (fun _ => False) := by
  refine Met.ofW (cc := b_I_isFinite_J) (maxL := 2) (ret := (some .boolean)) (by decide) rfl ?_
  intro p e s m args below meth c s₁ B hml hv
  obtain ⟨rfl, hh⟩ := hv
  subst hh
  have hx := B.exec
  have hb := B.bytes
  have hr := B.returns
  have hts := atoms_spec (ws := (gw y_I_isFinite_J b_I_isFinite_J 2 (some .boolean))) B.pre
  have hown : s.vm.findClass "MotionLab$Ieee" = some m.cls := findClass_of_methodNamed B.named
  have hlocks := B.notSynchronized
  have C0 : pu_C p s m _ meth c b_I_isFinite_J 2 "MotionLab$Ieee" (some .boolean) (gw y_I_isFinite_J b_I_isFinite_J 2 (some .boolean)) := ⟨hx, hb, hml, hown, hts, hr, hlocks⟩
  have hl := lv_entry ([.long x0]) (n := 2) (Nat.le_of_ble_eq_true rfl)
  rw [lg_entry_eq]
  generalize (lg_sl ([.long x0]) ++ List.replicate (2 - (lg_sl ([.long x0])).length) Slot.unset).toArray = ls at hl ⊢
  have hl : lv_has ls 2 [(0, .long x0)] := hl
  refine lv_lload_n hx hb d_I_isFinite_J_0 rfl (lv_at hl 0 rfl) ?_
  refine lv_ldc2 (v := (9223372036854775807 : Int64)) hx hb hown (hts _ (gm tw_84)) d_I_isFinite_J_1 ?_
  refine lv_land hx hb d_I_isFinite_J_4 ?_
  refine lv_ldc2 (v := (9218868437227405312 : Int64)) hx hb hown (hts _ (gm tw_85)) d_I_isFinite_J_5 ?_
  refine W.lcmp hx hb d_I_isFinite_J_8 ?_
  refine lv_if_ge (tgt := 16) hx hb d_I_isFinite_J_9 (by decide) (fun c1 => ?_) (fun c1 => ?_)
  · refine lv_iconst (v := 0) hx hb d_I_isFinite_J_16 (by decide) ?_
    exact pu_zret hx hb hr rfl hlocks d_I_isFinite_J_17 (by exact Eq.symm (if_pos c1))
  · refine lv_iconst (v := 1) hx hb d_I_isFinite_J_12 (by decide) ?_
    refine lv_goto (tgt := 17) hx hb d_I_isFinite_J_13 (by decide) ?_
    exact pu_zret hx hb hr rfl hlocks d_I_isFinite_J_17 (by exact Eq.symm (if_neg c1))
-- ===== MotionLab$Ieee.isNoNumber(J)Z
abbrev y_I_isNoNumber_J : MethodName := ⟨"MotionLab$Ieee", "isNoNumber", "(J)Z"⟩
abbrev b_I_isNoNumber_J : ByteArray := prog_2_method_2_code
theorem d_I_isNoNumber_J_0 : decode b_I_isNoNumber_J 0 = .ok (.lload_n 0, 1) := by decide +kernel
theorem d_I_isNoNumber_J_1 : decode b_I_isNoNumber_J 1 = .ok (.ldc2_w 9, 3) := by decide +kernel
theorem d_I_isNoNumber_J_4 : decode b_I_isNoNumber_J 4 = .ok (.land, 1) := by decide +kernel
theorem d_I_isNoNumber_J_5 : decode b_I_isNoNumber_J 5 = .ok (.ldc2_w 11, 3) := by decide +kernel
theorem d_I_isNoNumber_J_8 : decode b_I_isNoNumber_J 8 = .ok (.lcmp, 1) := by decide +kernel
theorem d_I_isNoNumber_J_9 : decode b_I_isNoNumber_J 9 = .ok (.ifCond .le 7, 3) := by decide +kernel
theorem d_I_isNoNumber_J_12 : decode b_I_isNoNumber_J 12 = .ok (.iconst 1, 1) := by decide +kernel
theorem d_I_isNoNumber_J_13 : decode b_I_isNoNumber_J 13 = .ok (.goto 4, 3) := by decide +kernel
theorem d_I_isNoNumber_J_16 : decode b_I_isNoNumber_J 16 = .ok (.iconst 0, 1) := by decide +kernel
theorem d_I_isNoNumber_J_17 : decode b_I_isNoNumber_J 17 = .ok (.ireturn, 1) := by decide +kernel
def f_I_isNoNumber_J (x0 : Int64) : Int32 :=
  if (lg_cmp (x0 &&& (9223372036854775807 : Int64)) (9218868437227405312 : Int64)) ≤ 0 then
    (0 : Int32)
  else
    (1 : Int32)
set_option maxHeartbeats 4000000 in
set_option maxRecDepth 100000 in
theorem c_I_isNoNumber_J (l : Launch) (h : Heap) (x0 : Int64) : Met l y_I_isNoNumber_J (gw y_I_isNoNumber_J b_I_isNoNumber_J 2 (some .boolean)) { frames := 0, cells := 0, slots := 0, locals := 0 } (pu_Pc [.long x0] h) (pu_Mi (f_I_isNoNumber_J x0) h) 0 0 (fun _ => False) := by
  refine Met.ofW (cc := b_I_isNoNumber_J) (maxL := 2) (ret := (some .boolean)) (by decide) rfl ?_
  intro p e s m args below meth c s₁ B hml hv
  obtain ⟨rfl, hh⟩ := hv
  subst hh
  have hx := B.exec
  have hb := B.bytes
  have hr := B.returns
  have hts := atoms_spec (ws := (gw y_I_isNoNumber_J b_I_isNoNumber_J 2 (some .boolean))) B.pre
  have hown : s.vm.findClass "MotionLab$Ieee" = some m.cls := findClass_of_methodNamed B.named
  have hlocks := B.notSynchronized
  have C0 : pu_C p s m _ meth c b_I_isNoNumber_J 2 "MotionLab$Ieee" (some .boolean) (gw y_I_isNoNumber_J b_I_isNoNumber_J 2 (some .boolean)) := ⟨hx, hb, hml, hown, hts, hr, hlocks⟩
  have hl := lv_entry ([.long x0]) (n := 2) (Nat.le_of_ble_eq_true rfl)
  rw [lg_entry_eq]
  generalize (lg_sl ([.long x0]) ++ List.replicate (2 - (lg_sl ([.long x0])).length) Slot.unset).toArray = ls at hl ⊢
  have hl : lv_has ls 2 [(0, .long x0)] := hl
  refine lv_lload_n hx hb d_I_isNoNumber_J_0 rfl (lv_at hl 0 rfl) ?_
  refine lv_ldc2 (v := (9223372036854775807 : Int64)) hx hb hown (hts _ (gm tw_84)) d_I_isNoNumber_J_1 ?_
  refine lv_land hx hb d_I_isNoNumber_J_4 ?_
  refine lv_ldc2 (v := (9218868437227405312 : Int64)) hx hb hown (hts _ (gm tw_85)) d_I_isNoNumber_J_5 ?_
  refine W.lcmp hx hb d_I_isNoNumber_J_8 ?_
  refine lv_if_le (tgt := 16) hx hb d_I_isNoNumber_J_9 (by decide) (fun c1 => ?_) (fun c1 => ?_)
  · refine lv_iconst (v := 0) hx hb d_I_isNoNumber_J_16 (by decide) ?_
    exact pu_zret hx hb hr rfl hlocks d_I_isNoNumber_J_17 (by exact Eq.symm (if_pos c1))
  · refine lv_iconst (v := 1) hx hb d_I_isNoNumber_J_12 (by decide) ?_
    refine lv_goto (tgt := 17) hx hb d_I_isNoNumber_J_13 (by decide) ?_
    exact pu_zret hx hb hr rfl hlocks d_I_isNoNumber_J_17 (by exact Eq.symm (if_neg c1))
-- ===== MotionLab$Ieee.told(J)J
abbrev y_I_told_J : MethodName := ⟨"MotionLab$Ieee", "told", "(J)J"⟩
abbrev b_I_told_J : ByteArray := prog_2_method_6_code
theorem d_I_told_J_0 : decode b_I_told_J 0 = .ok (.lload_n 0, 1) := by decide +kernel
theorem d_I_told_J_1 : decode b_I_told_J 1 = .ok (.invokestatic 13, 3) := by decide +kernel
theorem d_I_told_J_4 : decode b_I_told_J 4 = .ok (.ifCond .eq 9, 3) := by decide +kernel
theorem d_I_told_J_7 : decode b_I_told_J 7 = .ok (.ldc2_w 17, 3) := by decide +kernel
theorem d_I_told_J_10 : decode b_I_told_J 10 = .ok (.goto 4, 3) := by decide +kernel
theorem d_I_told_J_13 : decode b_I_told_J 13 = .ok (.lload_n 0, 1) := by decide +kernel
theorem d_I_told_J_14 : decode b_I_told_J 14 = .ok (.lreturn, 1) := by decide +kernel
def f_I_told_J (x0 : Int64) : Int64 :=
  if (f_I_isNoNumber_J x0) = 0 then
    x0
  else
    (9221120237041090560 : Int64)
set_option maxHeartbeats 4000000 in
set_option maxRecDepth 100000 in
theorem c_I_told_J (l : Launch) (h : Heap) (x0 : Int64) : Met l y_I_told_J (gw y_I_told_J b_I_told_J 2 (some .long)) { frames := 1, cells := 0, slots := 0, locals := 21 } (pu_Pc [.long x0] h) (pu_Ml (f_I_told_J x0) h) 0 0 (fun _ => False) := by
  refine Met.ofW (cc := b_I_told_J) (maxL := 2) (ret := (some .long)) (by decide) rfl ?_
  intro p e s m args below meth c s₁ B hml hv
  obtain ⟨rfl, hh⟩ := hv
  subst hh
  have hx := B.exec
  have hb := B.bytes
  have hr := B.returns
  have hts := atoms_spec (ws := (gw y_I_told_J b_I_told_J 2 (some .long))) B.pre
  have hown : s.vm.findClass "MotionLab$Ieee" = some m.cls := findClass_of_methodNamed B.named
  have hlocks := B.notSynchronized
  have C0 : pu_C p s m _ meth c b_I_told_J 2 "MotionLab$Ieee" (some .long) (gw y_I_told_J b_I_told_J 2 (some .long)) := ⟨hx, hb, hml, hown, hts, hr, hlocks⟩
  have hl := lv_entry ([.long x0]) (n := 2) (Nat.le_of_ble_eq_true rfl)
  rw [lg_entry_eq]
  generalize (lg_sl ([.long x0]) ++ List.replicate (2 - (lg_sl ([.long x0])).length) Slot.unset).toArray = ls at hl ⊢
  have hl : lv_has ls 2 [(0, .long x0)] := hl
  refine lv_lload_n hx hb d_I_told_J_0 rfl (lv_at hl 0 rfl) ?_
  refine pu_i (As := [.long x0]) (rest := []) ⟨hx, hb, hml, hown, hts⟩ (c_I_isNoNumber_J l _ x0) pu_pre (gw_call (k := 1) hts tw_89 tw_90 tw_5 tw_91 (by decide +kernel) rfl rfl ⟨Nat.le_of_ble_eq_true rfl, Nat.le_of_ble_eq_true rfl⟩) rfl hl.1 rfl (Nat.le_of_ble_eq_true rfl) ⟨Nat.zero_le _, Nat.zero_le _⟩ d_I_told_J_1 ?_
  refine lv_if_eq (tgt := 13) hx hb d_I_told_J_4 (by decide) (fun c1 => ?_) (fun c1 => ?_)
  · refine lv_lload_n hx hb d_I_told_J_13 rfl (lv_at hl 0 rfl) ?_
    exact pu_lret hx hb hr hlocks d_I_told_J_14 (by exact Eq.symm (if_pos c1))
  · refine lv_ldc2 (v := (9221120237041090560 : Int64)) hx hb hown (hts _ (gm tw_92)) d_I_told_J_7 ?_
    refine lv_goto (tgt := 14) hx hb d_I_told_J_10 (by decide) ?_
    exact pu_lret hx hb hr hlocks d_I_told_J_14 (by exact Eq.symm (if_neg c1))
-- ===== java/lang/Math.max(II)I
abbrev y_jM_max_II : MethodName := ⟨"java/lang/Math", "max", "(II)I"⟩
abbrev b_jM_max_II : ByteArray := prog_9_method_65_code
theorem d_jM_max_II_0 : decode b_jM_max_II 0 = .ok (.iload_n 0, 1) := by decide +kernel
theorem d_jM_max_II_1 : decode b_jM_max_II 1 = .ok (.iload_n 1, 1) := by decide +kernel
theorem d_jM_max_II_2 : decode b_jM_max_II 2 = .ok (.if_icmp .lt 7, 3) := by decide +kernel
theorem d_jM_max_II_5 : decode b_jM_max_II 5 = .ok (.iload_n 0, 1) := by decide +kernel
theorem d_jM_max_II_6 : decode b_jM_max_II 6 = .ok (.goto 4, 3) := by decide +kernel
theorem d_jM_max_II_9 : decode b_jM_max_II 9 = .ok (.iload_n 1, 1) := by decide +kernel
theorem d_jM_max_II_10 : decode b_jM_max_II 10 = .ok (.ireturn, 1) := by decide +kernel
def f_jM_max_II (x0 : Int32) (x1 : Int32) : Int32 :=
  if x0 < x1 then
    x1
  else
    x0
set_option maxHeartbeats 4000000 in
set_option maxRecDepth 100000 in
theorem c_jM_max_II (l : Launch) (h : Heap) (x0 : Int32) (x1 : Int32) : Met l y_jM_max_II (gw y_jM_max_II b_jM_max_II 2 (some .int)) { frames := 0, cells := 0, slots := 0, locals := 0 } (pu_Pc [.int x0, .int x1] h) (pu_Mi (f_jM_max_II x0 x1) h) 0 0 (fun _ => False) := by
  refine va_MetF (cc := b_jM_max_II) (maxL := 2) (ret := (some .int)) (by decide +kernel) rfl ?_
  intro p e s m args below meth c s₁ B hml hv
  obtain ⟨rfl, hh⟩ := hv
  subst hh
  have hx := B.exec
  have hb := B.bytes
  have hr := B.returns
  have hts := atoms_spec (ws := (gw y_jM_max_II b_jM_max_II 2 (some .int))) B.pre
  have hown : s.vm.findClass "java/lang/Math" = some m.cls := findClass_of_methodNamed B.named
  have hlocks := B.notSynchronized
  have C0 : pu_C p s m _ meth c b_jM_max_II 2 "java/lang/Math" (some .int) (gw y_jM_max_II b_jM_max_II 2 (some .int)) := ⟨hx, hb, hml, hown, hts, hr, hlocks⟩
  have hl := lv_entry ([.int x0, .int x1]) (n := 2) (Nat.le_of_ble_eq_true rfl)
  rw [lg_entry_eq]
  generalize (lg_sl ([.int x0, .int x1]) ++ List.replicate (2 - (lg_sl ([.int x0, .int x1])).length) Slot.unset).toArray = ls at hl ⊢
  have hl : lv_has ls 2 [(0, .int x0), (1, .int x1)] := hl
  refine lv_iload_n hx hb d_jM_max_II_0 rfl (lv_at hl 0 rfl) ?_
  refine lv_iload_n hx hb d_jM_max_II_1 rfl (lv_at hl 1 rfl) ?_
  refine lv_icmp_lt (tgt := 9) hx hb d_jM_max_II_2 (by decide) (fun c1 => ?_) (fun c1 => ?_)
  · refine lv_iload_n hx hb d_jM_max_II_9 rfl (lv_at hl 1 rfl) ?_
    exact pu_iret hx hb hr hlocks d_jM_max_II_10 (by exact Eq.symm (if_pos c1))
  · refine lv_iload_n hx hb d_jM_max_II_5 rfl (lv_at hl 0 rfl) ?_
    refine lv_goto (tgt := 10) hx hb d_jM_max_II_6 (by decide) ?_
    exact pu_iret hx hb hr hlocks d_jM_max_II_10 (by exact Eq.symm (if_neg c1))
-- ===== MotionLab$Ieee.power(J)I
abbrev y_I_power_J : MethodName := ⟨"MotionLab$Ieee", "power", "(J)I"⟩
abbrev b_I_power_J : ByteArray := prog_2_method_31_code
theorem d_I_power_J_0 : decode b_I_power_J 0 = .ok (.lload_n 0, 1) := by decide +kernel
theorem d_I_power_J_1 : decode b_I_power_J 1 = .ok (.ldc2_w 11, 3) := by decide +kernel
theorem d_I_power_J_4 : decode b_I_power_J 4 = .ok (.land, 1) := by decide +kernel
theorem d_I_power_J_5 : decode b_I_power_J 5 = .ok (.bipush 52, 2) := by decide +kernel
theorem d_I_power_J_7 : decode b_I_power_J 7 = .ok (.lushr, 1) := by decide +kernel
theorem d_I_power_J_8 : decode b_I_power_J 8 = .ok (.l2i, 1) := by decide +kernel
theorem d_I_power_J_9 : decode b_I_power_J 9 = .ok (.istore_n 2, 1) := by decide +kernel
theorem d_I_power_J_10 : decode b_I_power_J 10 = .ok (.iload_n 2, 1) := by decide +kernel
theorem d_I_power_J_11 : decode b_I_power_J 11 = .ok (.iconst 1, 1) := by decide +kernel
theorem d_I_power_J_12 : decode b_I_power_J 12 = .ok (.invokestatic 124, 3) := by decide +kernel
theorem d_I_power_J_15 : decode b_I_power_J 15 = .ok (.iconst 1, 1) := by decide +kernel
theorem d_I_power_J_16 : decode b_I_power_J 16 = .ok (.isub, 1) := by decide +kernel
theorem d_I_power_J_17 : decode b_I_power_J 17 = .ok (.sipush (-1074), 3) := by decide +kernel
theorem d_I_power_J_20 : decode b_I_power_J 20 = .ok (.iadd, 1) := by decide +kernel
theorem d_I_power_J_21 : decode b_I_power_J 21 = .ok (.ireturn, 1) := by decide +kernel
def f_I_power_J (x0 : Int64) : Int32 :=
  let v1 : Int32 := (j_ushr (x0 &&& (9218868437227405312 : Int64)) (52 : Int32)).toInt32
  ((f_jM_max_II v1 (1 : Int32)) - (1 : Int32)) + (-1074 : Int32)
set_option maxHeartbeats 4000000 in
set_option maxRecDepth 100000 in
theorem c_I_power_J (l : Launch) (h : Heap) (x0 : Int64) : Met l y_I_power_J (gw y_I_power_J b_I_power_J 3 (some .int)) { frames := 1, cells := 0, slots := 0, locals := 21 } (pu_Pc [.long x0] h) (pu_Mi (f_I_power_J x0) h) 0 0 (fun _ => False) := by
  refine Met.ofW (cc := b_I_power_J) (maxL := 3) (ret := (some .int)) (by decide) rfl ?_
  intro p e s m args below meth c s₁ B hml hv
  obtain ⟨rfl, hh⟩ := hv
  subst hh
  have hx := B.exec
  have hb := B.bytes
  have hr := B.returns
  have hts := atoms_spec (ws := (gw y_I_power_J b_I_power_J 3 (some .int))) B.pre
  have hown : s.vm.findClass "MotionLab$Ieee" = some m.cls := findClass_of_methodNamed B.named
  have hlocks := B.notSynchronized
  have C0 : pu_C p s m _ meth c b_I_power_J 3 "MotionLab$Ieee" (some .int) (gw y_I_power_J b_I_power_J 3 (some .int)) := ⟨hx, hb, hml, hown, hts, hr, hlocks⟩
  have hl := lv_entry ([.long x0]) (n := 3) (Nat.le_of_ble_eq_true rfl)
  rw [lg_entry_eq]
  generalize (lg_sl ([.long x0]) ++ List.replicate (3 - (lg_sl ([.long x0])).length) Slot.unset).toArray = ls at hl ⊢
  have hl : lv_has ls 3 [(0, .long x0)] := hl
  refine lv_lload_n hx hb d_I_power_J_0 rfl (lv_at hl 0 rfl) ?_
  refine lv_ldc2 (v := (9218868437227405312 : Int64)) hx hb hown (hts _ (gm tw_85)) d_I_power_J_1 ?_
  refine lv_land hx hb d_I_power_J_4 ?_
  refine lv_bipush (v := (52 : Int32)) hx hb d_I_power_J_5 (by decide) ?_
  refine lv_lushr (v := j_ushr (x0 &&& (9218868437227405312 : Int64)) (52 : Int32)) hx hb d_I_power_J_7 rfl ?_
  refine lv_l2i hx hb d_I_power_J_8 rfl ?_
  refine lv_topi (fun v1 e1 => ?_)
  refine lv_istore_n (lv' := [(2, .int v1), (0, .long x0)]) hx hb d_I_power_J_9 rfl hl (by decide) rfl (fun ls hl => ?_)
  refine lv_iload_n hx hb d_I_power_J_10 rfl (lv_at hl 0 rfl) ?_
  refine lv_iconst (v := 1) hx hb d_I_power_J_11 (by decide) ?_
  refine pu_i (As := [.int v1, .int (1 : Int32)]) (rest := []) ⟨hx, hb, hml, hown, hts⟩ (c_jM_max_II l _ v1 (1 : Int32)) pu_pre (gw_call (k := 2) hts tw_97 tw_98 tw_6 tw_99 (by decide +kernel) rfl rfl ⟨Nat.le_of_ble_eq_true rfl, Nat.le_of_ble_eq_true rfl⟩) rfl hl.1 rfl (Nat.le_of_ble_eq_true rfl) ⟨Nat.zero_le _, Nat.zero_le _⟩ d_I_power_J_12 ?_
  refine lv_iconst (v := 1) hx hb d_I_power_J_15 (by decide) ?_
  refine lv_isub hx hb d_I_power_J_16 ?_
  refine lv_sipush (v := (-1074 : Int32)) hx hb d_I_power_J_17 (by decide) ?_
  refine lv_iadd hx hb d_I_power_J_20 ?_
  exact pu_iret hx hb hr hlocks d_I_power_J_21 (by have qe1 := e1.symm; subst qe1; exact Eq.symm rfl)
-- ===== MotionLab$Ieee.significand(J)J
abbrev y_I_significand_J : MethodName := ⟨"MotionLab$Ieee", "significand", "(J)J"⟩
abbrev b_I_significand_J : ByteArray := prog_2_method_30_code
theorem d_I_significand_J_0 : decode b_I_significand_J 0 = .ok (.lload_n 0, 1) := by decide +kernel
theorem d_I_significand_J_1 : decode b_I_significand_J 1 = .ok (.ldc2_w 120, 3) := by decide +kernel
theorem d_I_significand_J_4 : decode b_I_significand_J 4 = .ok (.land, 1) := by decide +kernel
theorem d_I_significand_J_5 : decode b_I_significand_J 5 = .ok (.lstore_n 2, 1) := by decide +kernel
theorem d_I_significand_J_6 : decode b_I_significand_J 6 = .ok (.lload_n 0, 1) := by decide +kernel
theorem d_I_significand_J_7 : decode b_I_significand_J 7 = .ok (.ldc2_w 11, 3) := by decide +kernel
theorem d_I_significand_J_10 : decode b_I_significand_J 10 = .ok (.land, 1) := by decide +kernel
theorem d_I_significand_J_11 : decode b_I_significand_J 11 = .ok (.lconst 0, 1) := by decide +kernel
theorem d_I_significand_J_12 : decode b_I_significand_J 12 = .ok (.lcmp, 1) := by decide +kernel
theorem d_I_significand_J_13 : decode b_I_significand_J 13 = .ok (.ifCond .ne 7, 3) := by decide +kernel
theorem d_I_significand_J_16 : decode b_I_significand_J 16 = .ok (.lload_n 2, 1) := by decide +kernel
theorem d_I_significand_J_17 : decode b_I_significand_J 17 = .ok (.goto 8, 3) := by decide +kernel
theorem d_I_significand_J_20 : decode b_I_significand_J 20 = .ok (.lload_n 2, 1) := by decide +kernel
theorem d_I_significand_J_21 : decode b_I_significand_J 21 = .ok (.ldc2_w 122, 3) := by decide +kernel
theorem d_I_significand_J_24 : decode b_I_significand_J 24 = .ok (.lor, 1) := by decide +kernel
theorem d_I_significand_J_25 : decode b_I_significand_J 25 = .ok (.lreturn, 1) := by decide +kernel
def f_I_significand_J (x0 : Int64) : Int64 :=
  let v1 : Int64 := x0 &&& (4503599627370495 : Int64)
  if (lg_cmp (x0 &&& (9218868437227405312 : Int64)) (0 : Int64)) = 0 then
    v1
  else
    v1 ||| (4503599627370496 : Int64)
set_option maxHeartbeats 4000000 in
set_option maxRecDepth 100000 in
theorem c_I_significand_J (l : Launch) (h : Heap) (x0 : Int64) : Met l y_I_significand_J (gw y_I_significand_J b_I_significand_J 4 (some .long)) { frames := 0, cells := 0, slots := 0, locals := 0 } (pu_Pc [.long x0] h) (pu_Ml (f_I_significand_J x0) h) 0 0 (fun _ => False) := by
  refine Met.ofW (cc := b_I_significand_J) (maxL := 4) (ret := (some .long)) (by decide) rfl ?_
  intro p e s m args below meth c s₁ B hml hv
  obtain ⟨rfl, hh⟩ := hv
  subst hh
  have hx := B.exec
  have hb := B.bytes
  have hr := B.returns
  have hts := atoms_spec (ws := (gw y_I_significand_J b_I_significand_J 4 (some .long))) B.pre
  have hown : s.vm.findClass "MotionLab$Ieee" = some m.cls := findClass_of_methodNamed B.named
  have hlocks := B.notSynchronized
  have C0 : pu_C p s m _ meth c b_I_significand_J 4 "MotionLab$Ieee" (some .long) (gw y_I_significand_J b_I_significand_J 4 (some .long)) := ⟨hx, hb, hml, hown, hts, hr, hlocks⟩
  have hl := lv_entry ([.long x0]) (n := 4) (Nat.le_of_ble_eq_true rfl)
  rw [lg_entry_eq]
  generalize (lg_sl ([.long x0]) ++ List.replicate (4 - (lg_sl ([.long x0])).length) Slot.unset).toArray = ls at hl ⊢
  have hl : lv_has ls 4 [(0, .long x0)] := hl
  refine lv_lload_n hx hb d_I_significand_J_0 rfl (lv_at hl 0 rfl) ?_
  refine lv_ldc2 (v := (4503599627370495 : Int64)) hx hb hown (hts _ (gm tw_103)) d_I_significand_J_1 ?_
  refine lv_land hx hb d_I_significand_J_4 ?_
  refine lv_topl (fun v1 e1 => ?_)
  refine lv_lstore_n (lv' := [(2, .long v1), (0, .long x0)]) hx hb d_I_significand_J_5 rfl hl (by decide) rfl (fun ls hl => ?_)
  refine lv_lload_n hx hb d_I_significand_J_6 rfl (lv_at hl 1 rfl) ?_
  refine lv_ldc2 (v := (9218868437227405312 : Int64)) hx hb hown (hts _ (gm tw_85)) d_I_significand_J_7 ?_
  refine lv_land hx hb d_I_significand_J_10 ?_
  refine lv_lconst (v := (0 : Int64)) hx hb d_I_significand_J_11 (by decide) ?_
  refine W.lcmp hx hb d_I_significand_J_12 ?_
  refine lv_if_ne (tgt := 20) hx hb d_I_significand_J_13 (by decide) (fun c2 => ?_) (fun c2 => ?_)
  · refine lv_lload_n hx hb d_I_significand_J_20 rfl (lv_at hl 0 rfl) ?_
    refine lv_ldc2 (v := (4503599627370496 : Int64)) hx hb hown (hts _ (gm tw_104)) d_I_significand_J_21 ?_
    refine lv_lor hx hb d_I_significand_J_24 ?_
    exact pu_lret hx hb hr hlocks d_I_significand_J_25 (by have qe1 := e1.symm; subst qe1; exact Eq.symm (if_neg c2))
  · refine lv_lload_n hx hb d_I_significand_J_16 rfl (lv_at hl 0 rfl) ?_
    refine lv_goto (tgt := 25) hx hb d_I_significand_J_17 (by decide) ?_
    exact pu_lret hx hb hr hlocks d_I_significand_J_25 (by have qe1 := e1.symm; subst qe1; exact Eq.symm (if_pos c2))
-- ===== java/lang/Integer.numberOfLeadingZeros(I)I
abbrev y_jI_numberOfLeadingZeros_I : MethodName := ⟨"java/lang/Integer", "numberOfLeadingZeros", "(I)I"⟩
abbrev b_jI_numberOfLeadingZeros_I : ByteArray := prog_7_method_47_code
theorem d_jI_numberOfLeadingZeros_I_0 : decode b_jI_numberOfLeadingZeros_I 0 = .ok (.iload_n 0, 1) := by decide +kernel
theorem d_jI_numberOfLeadingZeros_I_1 : decode b_jI_numberOfLeadingZeros_I 1 = .ok (.ifCond .gt 14, 3) := by decide +kernel
theorem d_jI_numberOfLeadingZeros_I_4 : decode b_jI_numberOfLeadingZeros_I 4 = .ok (.iload_n 0, 1) := by decide +kernel
theorem d_jI_numberOfLeadingZeros_I_5 : decode b_jI_numberOfLeadingZeros_I 5 = .ok (.ifCond .ne 8, 3) := by decide +kernel
theorem d_jI_numberOfLeadingZeros_I_8 : decode b_jI_numberOfLeadingZeros_I 8 = .ok (.bipush 32, 2) := by decide +kernel
theorem d_jI_numberOfLeadingZeros_I_10 : decode b_jI_numberOfLeadingZeros_I 10 = .ok (.goto 4, 3) := by decide +kernel
theorem d_jI_numberOfLeadingZeros_I_13 : decode b_jI_numberOfLeadingZeros_I 13 = .ok (.iconst 0, 1) := by decide +kernel
theorem d_jI_numberOfLeadingZeros_I_14 : decode b_jI_numberOfLeadingZeros_I 14 = .ok (.ireturn, 1) := by decide +kernel
theorem d_jI_numberOfLeadingZeros_I_15 : decode b_jI_numberOfLeadingZeros_I 15 = .ok (.bipush 31, 2) := by decide +kernel
theorem d_jI_numberOfLeadingZeros_I_17 : decode b_jI_numberOfLeadingZeros_I 17 = .ok (.istore_n 1, 1) := by decide +kernel
theorem d_jI_numberOfLeadingZeros_I_18 : decode b_jI_numberOfLeadingZeros_I 18 = .ok (.iload_n 0, 1) := by decide +kernel
theorem d_jI_numberOfLeadingZeros_I_19 : decode b_jI_numberOfLeadingZeros_I 19 = .ok (.ldc_w 264, 3) := by decide +kernel
theorem d_jI_numberOfLeadingZeros_I_22 : decode b_jI_numberOfLeadingZeros_I 22 = .ok (.if_icmp .lt 11, 3) := by decide +kernel
theorem d_jI_numberOfLeadingZeros_I_25 : decode b_jI_numberOfLeadingZeros_I 25 = .ok (.iinc 1 (-16), 3) := by decide +kernel
theorem d_jI_numberOfLeadingZeros_I_28 : decode b_jI_numberOfLeadingZeros_I 28 = .ok (.iload_n 0, 1) := by decide +kernel
theorem d_jI_numberOfLeadingZeros_I_29 : decode b_jI_numberOfLeadingZeros_I 29 = .ok (.bipush 16, 2) := by decide +kernel
theorem d_jI_numberOfLeadingZeros_I_31 : decode b_jI_numberOfLeadingZeros_I 31 = .ok (.iushr, 1) := by decide +kernel
theorem d_jI_numberOfLeadingZeros_I_32 : decode b_jI_numberOfLeadingZeros_I 32 = .ok (.istore_n 0, 1) := by decide +kernel
theorem d_jI_numberOfLeadingZeros_I_33 : decode b_jI_numberOfLeadingZeros_I 33 = .ok (.iload_n 0, 1) := by decide +kernel
theorem d_jI_numberOfLeadingZeros_I_34 : decode b_jI_numberOfLeadingZeros_I 34 = .ok (.sipush 256, 3) := by decide +kernel
theorem d_jI_numberOfLeadingZeros_I_37 : decode b_jI_numberOfLeadingZeros_I 37 = .ok (.if_icmp .lt 11, 3) := by decide +kernel
theorem d_jI_numberOfLeadingZeros_I_40 : decode b_jI_numberOfLeadingZeros_I 40 = .ok (.iinc 1 (-8), 3) := by decide +kernel
theorem d_jI_numberOfLeadingZeros_I_43 : decode b_jI_numberOfLeadingZeros_I 43 = .ok (.iload_n 0, 1) := by decide +kernel
theorem d_jI_numberOfLeadingZeros_I_44 : decode b_jI_numberOfLeadingZeros_I 44 = .ok (.bipush 8, 2) := by decide +kernel
theorem d_jI_numberOfLeadingZeros_I_46 : decode b_jI_numberOfLeadingZeros_I 46 = .ok (.iushr, 1) := by decide +kernel
theorem d_jI_numberOfLeadingZeros_I_47 : decode b_jI_numberOfLeadingZeros_I 47 = .ok (.istore_n 0, 1) := by decide +kernel
theorem d_jI_numberOfLeadingZeros_I_48 : decode b_jI_numberOfLeadingZeros_I 48 = .ok (.iload_n 0, 1) := by decide +kernel
theorem d_jI_numberOfLeadingZeros_I_49 : decode b_jI_numberOfLeadingZeros_I 49 = .ok (.bipush 16, 2) := by decide +kernel
theorem d_jI_numberOfLeadingZeros_I_51 : decode b_jI_numberOfLeadingZeros_I 51 = .ok (.if_icmp .lt 10, 3) := by decide +kernel
theorem d_jI_numberOfLeadingZeros_I_54 : decode b_jI_numberOfLeadingZeros_I 54 = .ok (.iinc 1 (-4), 3) := by decide +kernel
theorem d_jI_numberOfLeadingZeros_I_57 : decode b_jI_numberOfLeadingZeros_I 57 = .ok (.iload_n 0, 1) := by decide +kernel
theorem d_jI_numberOfLeadingZeros_I_58 : decode b_jI_numberOfLeadingZeros_I 58 = .ok (.iconst 4, 1) := by decide +kernel
theorem d_jI_numberOfLeadingZeros_I_59 : decode b_jI_numberOfLeadingZeros_I 59 = .ok (.iushr, 1) := by decide +kernel
theorem d_jI_numberOfLeadingZeros_I_60 : decode b_jI_numberOfLeadingZeros_I 60 = .ok (.istore_n 0, 1) := by decide +kernel
theorem d_jI_numberOfLeadingZeros_I_61 : decode b_jI_numberOfLeadingZeros_I 61 = .ok (.iload_n 0, 1) := by decide +kernel
theorem d_jI_numberOfLeadingZeros_I_62 : decode b_jI_numberOfLeadingZeros_I 62 = .ok (.iconst 4, 1) := by decide +kernel
theorem d_jI_numberOfLeadingZeros_I_63 : decode b_jI_numberOfLeadingZeros_I 63 = .ok (.if_icmp .lt 10, 3) := by decide +kernel
theorem d_jI_numberOfLeadingZeros_I_66 : decode b_jI_numberOfLeadingZeros_I 66 = .ok (.iinc 1 (-2), 3) := by decide +kernel
theorem d_jI_numberOfLeadingZeros_I_69 : decode b_jI_numberOfLeadingZeros_I 69 = .ok (.iload_n 0, 1) := by decide +kernel
theorem d_jI_numberOfLeadingZeros_I_70 : decode b_jI_numberOfLeadingZeros_I 70 = .ok (.iconst 2, 1) := by decide +kernel
theorem d_jI_numberOfLeadingZeros_I_71 : decode b_jI_numberOfLeadingZeros_I 71 = .ok (.iushr, 1) := by decide +kernel
theorem d_jI_numberOfLeadingZeros_I_72 : decode b_jI_numberOfLeadingZeros_I 72 = .ok (.istore_n 0, 1) := by decide +kernel
theorem d_jI_numberOfLeadingZeros_I_73 : decode b_jI_numberOfLeadingZeros_I 73 = .ok (.iload_n 1, 1) := by decide +kernel
theorem d_jI_numberOfLeadingZeros_I_74 : decode b_jI_numberOfLeadingZeros_I 74 = .ok (.iload_n 0, 1) := by decide +kernel
theorem d_jI_numberOfLeadingZeros_I_75 : decode b_jI_numberOfLeadingZeros_I 75 = .ok (.iconst 1, 1) := by decide +kernel
theorem d_jI_numberOfLeadingZeros_I_76 : decode b_jI_numberOfLeadingZeros_I 76 = .ok (.iushr, 1) := by decide +kernel
theorem d_jI_numberOfLeadingZeros_I_77 : decode b_jI_numberOfLeadingZeros_I 77 = .ok (.isub, 1) := by decide +kernel
theorem d_jI_numberOfLeadingZeros_I_78 : decode b_jI_numberOfLeadingZeros_I 78 = .ok (.ireturn, 1) := by decide +kernel
def f_jI_numberOfLeadingZeros_I_61 (x0 : Int32) (x1 : Int32) : Int32 :=
  if x0 < (4 : Int32) then
    x1 - (j_iushr x0 (1 : Int32))
  else
    let v2 : Int32 := x1 + (-2)
    let v3 : Int32 := j_iushr x0 (2 : Int32)
    v2 - (j_iushr v3 (1 : Int32))
set_option maxHeartbeats 4000000 in
set_option maxRecDepth 100000 in
theorem k_jI_numberOfLeadingZeros_I_61 {p : Program} {l : Launch} {e : Env} {s : State} {m : MethodId} {args : Array Value} {below : List Frame} {meth : Method} {c : Code} (C0 : pu_C p s m args meth c b_jI_numberOfLeadingZeros_I 2 "java/lang/Integer" (some .int) (gw y_jI_numberOfLeadingZeros_I b_jI_numberOfLeadingZeros_I 2 (some .int))) (x0 : Int32) (x1 : Int32) (ls : Array Slot) (hl : lv_has ls 2 [(0, .int x0), (1, .int x1)]) {w : Int32} (hw : w = f_jI_numberOfLeadingZeros_I_61 x0 x1) : W p l e (headSpec (gw y_jI_numberOfLeadingZeros_I b_jI_numberOfLeadingZeros_I 2 (some .int)) ({ frames := 0, cells := 0, slots := 0, locals := 0 } : Room)).room s m args below meth c s.heap [] 0 0 (pu_Qi w below args s) (F0 m 61 ls []) := by
  obtain ⟨hx, hb, hml, hown, hts, hr, hlocks⟩ := id C0
  refine lv_iload_n hx hb d_jI_numberOfLeadingZeros_I_61 rfl (lv_at hl 0 rfl) ?_
  refine lv_iconst (v := 4) hx hb d_jI_numberOfLeadingZeros_I_62 (by decide) ?_
  refine lv_icmp_lt (tgt := 73) hx hb d_jI_numberOfLeadingZeros_I_63 (by decide) (fun c1 => ?_) (fun c1 => ?_)
  · refine lv_iload_n hx hb d_jI_numberOfLeadingZeros_I_73 rfl (lv_at hl 1 rfl) ?_
    refine lv_iload_n hx hb d_jI_numberOfLeadingZeros_I_74 rfl (lv_at hl 0 rfl) ?_
    refine lv_iconst (v := 1) hx hb d_jI_numberOfLeadingZeros_I_75 (by decide) ?_
    refine lv_iushr (v := j_iushr x0 (1 : Int32)) hx hb d_jI_numberOfLeadingZeros_I_76 rfl ?_
    refine lv_isub hx hb d_jI_numberOfLeadingZeros_I_77 ?_
    exact pu_iret hx hb hr hlocks d_jI_numberOfLeadingZeros_I_78 (by exact Eq.symm (hw.trans (if_pos c1)))
  · obtain ⟨v2, e2⟩ : ∃ y : Int32, y = x1 + (-2) := ⟨_, rfl⟩
    refine lv_iinc (v := v2) (lv' := [(1, .int v2), (0, .int x0)]) hx hb d_jI_numberOfLeadingZeros_I_66 hl (k := 1) rfl (by rw [e2]; rfl) (by decide) rfl (fun ls hl => ?_)
    refine lv_iload_n hx hb d_jI_numberOfLeadingZeros_I_69 rfl (lv_at hl 1 rfl) ?_
    refine lv_iconst (v := 2) hx hb d_jI_numberOfLeadingZeros_I_70 (by decide) ?_
    refine lv_iushr (v := j_iushr x0 (2 : Int32)) hx hb d_jI_numberOfLeadingZeros_I_71 rfl ?_
    refine lv_topi (fun v3 e3 => ?_)
    refine lv_istore_n (lv' := [(0, .int v3), (1, .int v2)]) hx hb d_jI_numberOfLeadingZeros_I_72 rfl hl (by decide) rfl (fun ls hl => ?_)
    refine lv_iload_n hx hb d_jI_numberOfLeadingZeros_I_73 rfl (lv_at hl 1 rfl) ?_
    refine lv_iload_n hx hb d_jI_numberOfLeadingZeros_I_74 rfl (lv_at hl 0 rfl) ?_
    refine lv_iconst (v := 1) hx hb d_jI_numberOfLeadingZeros_I_75 (by decide) ?_
    refine lv_iushr (v := j_iushr v3 (1 : Int32)) hx hb d_jI_numberOfLeadingZeros_I_76 rfl ?_
    refine lv_isub hx hb d_jI_numberOfLeadingZeros_I_77 ?_
    exact pu_iret hx hb hr hlocks d_jI_numberOfLeadingZeros_I_78 (by have qe2 := e2.symm; have qe3 := e3.symm; subst qe2 qe3; exact Eq.symm (hw.trans (if_neg c1)))
def f_jI_numberOfLeadingZeros_I_48 (x0 : Int32) (x1 : Int32) : Int32 :=
  if x0 < (16 : Int32) then
    f_jI_numberOfLeadingZeros_I_61 x0 x1
  else
    let v2 : Int32 := x1 + (-4)
    let v3 : Int32 := j_iushr x0 (4 : Int32)
    f_jI_numberOfLeadingZeros_I_61 v3 v2
set_option maxHeartbeats 4000000 in
set_option maxRecDepth 100000 in
theorem k_jI_numberOfLeadingZeros_I_48 {p : Program} {l : Launch} {e : Env} {s : State} {m : MethodId} {args : Array Value} {below : List Frame} {meth : Method} {c : Code} (C0 : pu_C p s m args meth c b_jI_numberOfLeadingZeros_I 2 "java/lang/Integer" (some .int) (gw y_jI_numberOfLeadingZeros_I b_jI_numberOfLeadingZeros_I 2 (some .int))) (x0 : Int32) (x1 : Int32) (ls : Array Slot) (hl : lv_has ls 2 [(0, .int x0), (1, .int x1)]) {w : Int32} (hw : w = f_jI_numberOfLeadingZeros_I_48 x0 x1) : W p l e (headSpec (gw y_jI_numberOfLeadingZeros_I b_jI_numberOfLeadingZeros_I 2 (some .int)) ({ frames := 0, cells := 0, slots := 0, locals := 0 } : Room)).room s m args below meth c s.heap [] 0 0 (pu_Qi w below args s) (F0 m 48 ls []) := by
  obtain ⟨hx, hb, hml, hown, hts, hr, hlocks⟩ := id C0
  refine lv_iload_n hx hb d_jI_numberOfLeadingZeros_I_48 rfl (lv_at hl 0 rfl) ?_
  refine lv_bipush (v := (16 : Int32)) hx hb d_jI_numberOfLeadingZeros_I_49 (by decide) ?_
  refine lv_icmp_lt (tgt := 61) hx hb d_jI_numberOfLeadingZeros_I_51 (by decide) (fun c1 => ?_) (fun c1 => ?_)
  · exact k_jI_numberOfLeadingZeros_I_61 C0 x0 x1 ls (lv_sub hl [0, 1] rfl) (by exact (hw.trans (if_pos c1)))
  · obtain ⟨v2, e2⟩ : ∃ y : Int32, y = x1 + (-4) := ⟨_, rfl⟩
    refine lv_iinc (v := v2) (lv' := [(1, .int v2), (0, .int x0)]) hx hb d_jI_numberOfLeadingZeros_I_54 hl (k := 1) rfl (by rw [e2]; rfl) (by decide) rfl (fun ls hl => ?_)
    refine lv_iload_n hx hb d_jI_numberOfLeadingZeros_I_57 rfl (lv_at hl 1 rfl) ?_
    refine lv_iconst (v := 4) hx hb d_jI_numberOfLeadingZeros_I_58 (by decide) ?_
    refine lv_iushr (v := j_iushr x0 (4 : Int32)) hx hb d_jI_numberOfLeadingZeros_I_59 rfl ?_
    refine lv_topi (fun v3 e3 => ?_)
    refine lv_istore_n (lv' := [(0, .int v3), (1, .int v2)]) hx hb d_jI_numberOfLeadingZeros_I_60 rfl hl (by decide) rfl (fun ls hl => ?_)
    exact k_jI_numberOfLeadingZeros_I_61 C0 v3 v2 ls (lv_sub hl [0, 1] rfl) (by have qe2 := e2.symm; have qe3 := e3.symm; subst qe2 qe3; exact (hw.trans (if_neg c1)))
def f_jI_numberOfLeadingZeros_I_33 (x0 : Int32) (x1 : Int32) : Int32 :=
  if x0 < (256 : Int32) then
    f_jI_numberOfLeadingZeros_I_48 x0 x1
  else
    let v2 : Int32 := x1 + (-8)
    let v3 : Int32 := j_iushr x0 (8 : Int32)
    f_jI_numberOfLeadingZeros_I_48 v3 v2
set_option maxHeartbeats 4000000 in
set_option maxRecDepth 100000 in
theorem k_jI_numberOfLeadingZeros_I_33 {p : Program} {l : Launch} {e : Env} {s : State} {m : MethodId} {args : Array Value} {below : List Frame} {meth : Method} {c : Code} (C0 : pu_C p s m args meth c b_jI_numberOfLeadingZeros_I 2 "java/lang/Integer" (some .int) (gw y_jI_numberOfLeadingZeros_I b_jI_numberOfLeadingZeros_I 2 (some .int))) (x0 : Int32) (x1 : Int32) (ls : Array Slot) (hl : lv_has ls 2 [(0, .int x0), (1, .int x1)]) {w : Int32} (hw : w = f_jI_numberOfLeadingZeros_I_33 x0 x1) : W p l e (headSpec (gw y_jI_numberOfLeadingZeros_I b_jI_numberOfLeadingZeros_I 2 (some .int)) ({ frames := 0, cells := 0, slots := 0, locals := 0 } : Room)).room s m args below meth c s.heap [] 0 0 (pu_Qi w below args s) (F0 m 33 ls []) := by
  obtain ⟨hx, hb, hml, hown, hts, hr, hlocks⟩ := id C0
  refine lv_iload_n hx hb d_jI_numberOfLeadingZeros_I_33 rfl (lv_at hl 0 rfl) ?_
  refine lv_sipush (v := (256 : Int32)) hx hb d_jI_numberOfLeadingZeros_I_34 (by decide) ?_
  refine lv_icmp_lt (tgt := 48) hx hb d_jI_numberOfLeadingZeros_I_37 (by decide) (fun c1 => ?_) (fun c1 => ?_)
  · exact k_jI_numberOfLeadingZeros_I_48 C0 x0 x1 ls (lv_sub hl [0, 1] rfl) (by exact (hw.trans (if_pos c1)))
  · obtain ⟨v2, e2⟩ : ∃ y : Int32, y = x1 + (-8) := ⟨_, rfl⟩
    refine lv_iinc (v := v2) (lv' := [(1, .int v2), (0, .int x0)]) hx hb d_jI_numberOfLeadingZeros_I_40 hl (k := 1) rfl (by rw [e2]; rfl) (by decide) rfl (fun ls hl => ?_)
    refine lv_iload_n hx hb d_jI_numberOfLeadingZeros_I_43 rfl (lv_at hl 1 rfl) ?_
    refine lv_bipush (v := (8 : Int32)) hx hb d_jI_numberOfLeadingZeros_I_44 (by decide) ?_
    refine lv_iushr (v := j_iushr x0 (8 : Int32)) hx hb d_jI_numberOfLeadingZeros_I_46 rfl ?_
    refine lv_topi (fun v3 e3 => ?_)
    refine lv_istore_n (lv' := [(0, .int v3), (1, .int v2)]) hx hb d_jI_numberOfLeadingZeros_I_47 rfl hl (by decide) rfl (fun ls hl => ?_)
    exact k_jI_numberOfLeadingZeros_I_48 C0 v3 v2 ls (lv_sub hl [0, 1] rfl) (by have qe2 := e2.symm; have qe3 := e3.symm; subst qe2 qe3; exact (hw.trans (if_neg c1)))
def f_jI_numberOfLeadingZeros_I (x0 : Int32) : Int32 :=
  if 0 < x0 then
    if x0 < (65536 : Int32) then
      f_jI_numberOfLeadingZeros_I_33 x0 (31 : Int32)
    else
      let v3 : Int32 := j_iushr x0 (16 : Int32)
      f_jI_numberOfLeadingZeros_I_33 v3 (15 : Int32)
  else
    if x0 = 0 then
      (32 : Int32)
    else
      (0 : Int32)
set_option maxHeartbeats 4000000 in
set_option maxRecDepth 100000 in
theorem c_jI_numberOfLeadingZeros_I (l : Launch) (h : Heap) (x0 : Int32) : Met l y_jI_numberOfLeadingZeros_I (gw y_jI_numberOfLeadingZeros_I b_jI_numberOfLeadingZeros_I 2 (some .int)) { frames := 0, cells := 0, slots := 0, locals := 0 } (pu_Pc [.int x0] h) (pu_Mi (f_jI_numberOfLeadingZeros_I x0) h) 0 0 (fun _ => False) := by
  refine va_MetF (cc := b_jI_numberOfLeadingZeros_I) (maxL := 2) (ret := (some .int)) (by decide +kernel) rfl ?_
  intro p e s m args below meth c s₁ B hml hv
  obtain ⟨rfl, hh⟩ := hv
  subst hh
  have hx := B.exec
  have hb := B.bytes
  have hr := B.returns
  have hts := atoms_spec (ws := (gw y_jI_numberOfLeadingZeros_I b_jI_numberOfLeadingZeros_I 2 (some .int))) B.pre
  have hown : s.vm.findClass "java/lang/Integer" = some m.cls := findClass_of_methodNamed B.named
  have hlocks := B.notSynchronized
  have C0 : pu_C p s m _ meth c b_jI_numberOfLeadingZeros_I 2 "java/lang/Integer" (some .int) (gw y_jI_numberOfLeadingZeros_I b_jI_numberOfLeadingZeros_I 2 (some .int)) := ⟨hx, hb, hml, hown, hts, hr, hlocks⟩
  have hl := lv_entry ([.int x0]) (n := 2) (Nat.le_of_ble_eq_true rfl)
  rw [lg_entry_eq]
  generalize (lg_sl ([.int x0]) ++ List.replicate (2 - (lg_sl ([.int x0])).length) Slot.unset).toArray = ls at hl ⊢
  have hl : lv_has ls 2 [(0, .int x0)] := hl
  refine lv_iload_n hx hb d_jI_numberOfLeadingZeros_I_0 rfl (lv_at hl 0 rfl) ?_
  refine lv_if_gt (tgt := 15) hx hb d_jI_numberOfLeadingZeros_I_1 (by decide) (fun c1 => ?_) (fun c1 => ?_)
  · refine lv_bipush (v := (31 : Int32)) hx hb d_jI_numberOfLeadingZeros_I_15 (by decide) ?_
    refine lv_istore_n (lv' := [(1, .int (31 : Int32)), (0, .int x0)]) hx hb d_jI_numberOfLeadingZeros_I_17 rfl hl (by decide) rfl (fun ls hl => ?_)
    refine lv_iload_n hx hb d_jI_numberOfLeadingZeros_I_18 rfl (lv_at hl 1 rfl) ?_
    refine lv_ldcw (v := (65536 : Int32)) hx hb hown (hts _ (gm tw_114)) d_jI_numberOfLeadingZeros_I_19 ?_
    refine lv_icmp_lt (tgt := 33) hx hb d_jI_numberOfLeadingZeros_I_22 (by decide) (fun c2 => ?_) (fun c2 => ?_)
    · exact k_jI_numberOfLeadingZeros_I_33 C0 x0 (31 : Int32) ls (lv_sub hl [1, 0] rfl) (by exact (Eq.trans (if_pos c1) (if_pos c2)))
    · refine lv_iinc (v := (15 : Int32)) (lv' := [(1, .int (15 : Int32)), (0, .int x0)]) hx hb d_jI_numberOfLeadingZeros_I_25 hl (k := 0) rfl (by decide) (by decide) rfl (fun ls hl => ?_)
      refine lv_iload_n hx hb d_jI_numberOfLeadingZeros_I_28 rfl (lv_at hl 1 rfl) ?_
      refine lv_bipush (v := (16 : Int32)) hx hb d_jI_numberOfLeadingZeros_I_29 (by decide) ?_
      refine lv_iushr (v := j_iushr x0 (16 : Int32)) hx hb d_jI_numberOfLeadingZeros_I_31 rfl ?_
      refine lv_topi (fun v3 e3 => ?_)
      refine lv_istore_n (lv' := [(0, .int v3), (1, .int (15 : Int32))]) hx hb d_jI_numberOfLeadingZeros_I_32 rfl hl (by decide) rfl (fun ls hl => ?_)
      exact k_jI_numberOfLeadingZeros_I_33 C0 v3 (15 : Int32) ls (lv_sub hl [0, 1] rfl) (by have qe3 := e3.symm; subst qe3; exact (Eq.trans (if_pos c1) (if_neg c2)))
  · refine lv_iload_n hx hb d_jI_numberOfLeadingZeros_I_4 rfl (lv_at hl 0 rfl) ?_
    refine lv_if_ne (tgt := 13) hx hb d_jI_numberOfLeadingZeros_I_5 (by decide) (fun c4 => ?_) (fun c4 => ?_)
    · refine lv_iconst (v := 0) hx hb d_jI_numberOfLeadingZeros_I_13 (by decide) ?_
      exact pu_iret hx hb hr hlocks d_jI_numberOfLeadingZeros_I_14 (by exact Eq.symm (Eq.trans (if_neg c1) (if_neg c4)))
    · refine lv_bipush (v := (32 : Int32)) hx hb d_jI_numberOfLeadingZeros_I_8 (by decide) ?_
      refine lv_goto (tgt := 14) hx hb d_jI_numberOfLeadingZeros_I_10 (by decide) ?_
      exact pu_iret hx hb hr hlocks d_jI_numberOfLeadingZeros_I_14 (by exact Eq.symm (Eq.trans (if_neg c1) (if_pos c4)))
-- ===== java/lang/Long.numberOfLeadingZeros(J)I
abbrev y_jL_numberOfLeadingZeros_J : MethodName := ⟨"java/lang/Long", "numberOfLeadingZeros", "(J)I"⟩
abbrev b_jL_numberOfLeadingZeros_J : ByteArray := prog_8_method_48_code
theorem d_jL_numberOfLeadingZeros_J_0 : decode b_jL_numberOfLeadingZeros_J 0 = .ok (.lload_n 0, 1) := by decide +kernel
theorem d_jL_numberOfLeadingZeros_J_1 : decode b_jL_numberOfLeadingZeros_J 1 = .ok (.bipush 32, 2) := by decide +kernel
theorem d_jL_numberOfLeadingZeros_J_3 : decode b_jL_numberOfLeadingZeros_J 3 = .ok (.lushr, 1) := by decide +kernel
theorem d_jL_numberOfLeadingZeros_J_4 : decode b_jL_numberOfLeadingZeros_J 4 = .ok (.l2i, 1) := by decide +kernel
theorem d_jL_numberOfLeadingZeros_J_5 : decode b_jL_numberOfLeadingZeros_J 5 = .ok (.istore_n 2, 1) := by decide +kernel
theorem d_jL_numberOfLeadingZeros_J_6 : decode b_jL_numberOfLeadingZeros_J 6 = .ok (.iload_n 2, 1) := by decide +kernel
theorem d_jL_numberOfLeadingZeros_J_7 : decode b_jL_numberOfLeadingZeros_J 7 = .ok (.ifCond .ne 14, 3) := by decide +kernel
theorem d_jL_numberOfLeadingZeros_J_10 : decode b_jL_numberOfLeadingZeros_J 10 = .ok (.bipush 32, 2) := by decide +kernel
theorem d_jL_numberOfLeadingZeros_J_12 : decode b_jL_numberOfLeadingZeros_J 12 = .ok (.lload_n 0, 1) := by decide +kernel
theorem d_jL_numberOfLeadingZeros_J_13 : decode b_jL_numberOfLeadingZeros_J 13 = .ok (.l2i, 1) := by decide +kernel
theorem d_jL_numberOfLeadingZeros_J_14 : decode b_jL_numberOfLeadingZeros_J 14 = .ok (.invokestatic 308, 3) := by decide +kernel
theorem d_jL_numberOfLeadingZeros_J_17 : decode b_jL_numberOfLeadingZeros_J 17 = .ok (.iadd, 1) := by decide +kernel
theorem d_jL_numberOfLeadingZeros_J_18 : decode b_jL_numberOfLeadingZeros_J 18 = .ok (.goto 7, 3) := by decide +kernel
theorem d_jL_numberOfLeadingZeros_J_21 : decode b_jL_numberOfLeadingZeros_J 21 = .ok (.iload_n 2, 1) := by decide +kernel
theorem d_jL_numberOfLeadingZeros_J_22 : decode b_jL_numberOfLeadingZeros_J 22 = .ok (.invokestatic 308, 3) := by decide +kernel
theorem d_jL_numberOfLeadingZeros_J_25 : decode b_jL_numberOfLeadingZeros_J 25 = .ok (.ireturn, 1) := by decide +kernel
def f_jL_numberOfLeadingZeros_J (x0 : Int64) : Int32 :=
  let v1 : Int32 := (j_ushr x0 (32 : Int32)).toInt32
  if v1 = 0 then
    (32 : Int32) + (f_jI_numberOfLeadingZeros_I (x0.toInt32))
  else
    f_jI_numberOfLeadingZeros_I v1
set_option maxHeartbeats 4000000 in
set_option maxRecDepth 100000 in
theorem c_jL_numberOfLeadingZeros_J (l : Launch) (h : Heap) (x0 : Int64) : Met l y_jL_numberOfLeadingZeros_J (gw y_jL_numberOfLeadingZeros_J b_jL_numberOfLeadingZeros_J 3 (some .int)) { frames := 1, cells := 0, slots := 0, locals := 21 } (pu_Pc [.long x0] h) (pu_Mi (f_jL_numberOfLeadingZeros_J x0) h) 0 0 (fun _ => False) := by
  refine va_MetF (cc := b_jL_numberOfLeadingZeros_J) (maxL := 3) (ret := (some .int)) (by decide +kernel) rfl ?_
  intro p e s m args below meth c s₁ B hml hv
  obtain ⟨rfl, hh⟩ := hv
  subst hh
  have hx := B.exec
  have hb := B.bytes
  have hr := B.returns
  have hts := atoms_spec (ws := (gw y_jL_numberOfLeadingZeros_J b_jL_numberOfLeadingZeros_J 3 (some .int))) B.pre
  have hown : s.vm.findClass "java/lang/Long" = some m.cls := findClass_of_methodNamed B.named
  have hlocks := B.notSynchronized
  have C0 : pu_C p s m _ meth c b_jL_numberOfLeadingZeros_J 3 "java/lang/Long" (some .int) (gw y_jL_numberOfLeadingZeros_J b_jL_numberOfLeadingZeros_J 3 (some .int)) := ⟨hx, hb, hml, hown, hts, hr, hlocks⟩
  have hl := lv_entry ([.long x0]) (n := 3) (Nat.le_of_ble_eq_true rfl)
  rw [lg_entry_eq]
  generalize (lg_sl ([.long x0]) ++ List.replicate (3 - (lg_sl ([.long x0])).length) Slot.unset).toArray = ls at hl ⊢
  have hl : lv_has ls 3 [(0, .long x0)] := hl
  refine lv_lload_n hx hb d_jL_numberOfLeadingZeros_J_0 rfl (lv_at hl 0 rfl) ?_
  refine lv_bipush (v := (32 : Int32)) hx hb d_jL_numberOfLeadingZeros_J_1 (by decide) ?_
  refine lv_lushr (v := j_ushr x0 (32 : Int32)) hx hb d_jL_numberOfLeadingZeros_J_3 rfl ?_
  refine lv_l2i hx hb d_jL_numberOfLeadingZeros_J_4 rfl ?_
  refine lv_topi (fun v1 e1 => ?_)
  refine lv_istore_n (lv' := [(2, .int v1), (0, .long x0)]) hx hb d_jL_numberOfLeadingZeros_J_5 rfl hl (by decide) rfl (fun ls hl => ?_)
  refine lv_iload_n hx hb d_jL_numberOfLeadingZeros_J_6 rfl (lv_at hl 0 rfl) ?_
  refine lv_if_ne (tgt := 21) hx hb d_jL_numberOfLeadingZeros_J_7 (by decide) (fun c2 => ?_) (fun c2 => ?_)
  · refine lv_iload_n hx hb d_jL_numberOfLeadingZeros_J_21 rfl (lv_at hl 0 rfl) ?_
    refine pu_i (As := [.int v1]) (rest := []) ⟨hx, hb, hml, hown, hts⟩ (c_jI_numberOfLeadingZeros_I l _ v1) pu_pre (gw_call (k := 1) hts tw_111 tw_112 tw_8 tw_113 (by decide +kernel) rfl rfl ⟨Nat.le_of_ble_eq_true rfl, Nat.le_of_ble_eq_true rfl⟩) rfl hl.1 rfl (Nat.le_of_ble_eq_true rfl) ⟨Nat.zero_le _, Nat.zero_le _⟩ d_jL_numberOfLeadingZeros_J_22 ?_
    exact pu_iret hx hb hr hlocks d_jL_numberOfLeadingZeros_J_25 (by have qe1 := e1.symm; subst qe1; exact Eq.symm (if_neg c2))
  · refine lv_bipush (v := (32 : Int32)) hx hb d_jL_numberOfLeadingZeros_J_10 (by decide) ?_
    refine lv_lload_n hx hb d_jL_numberOfLeadingZeros_J_12 rfl (lv_at hl 1 rfl) ?_
    refine lv_l2i hx hb d_jL_numberOfLeadingZeros_J_13 rfl ?_
    refine pu_i (As := [.int (x0.toInt32)]) (rest := [.int (32 : Int32)]) ⟨hx, hb, hml, hown, hts⟩ (c_jI_numberOfLeadingZeros_I l _ (x0.toInt32)) pu_pre (gw_call (k := 1) hts tw_111 tw_112 tw_8 tw_113 (by decide +kernel) rfl rfl ⟨Nat.le_of_ble_eq_true rfl, Nat.le_of_ble_eq_true rfl⟩) rfl hl.1 rfl (Nat.le_of_ble_eq_true rfl) ⟨Nat.zero_le _, Nat.zero_le _⟩ d_jL_numberOfLeadingZeros_J_14 ?_
    refine lv_iadd hx hb d_jL_numberOfLeadingZeros_J_17 ?_
    refine lv_goto (tgt := 25) hx hb d_jL_numberOfLeadingZeros_J_18 (by decide) ?_
    exact pu_iret hx hb hr hlocks d_jL_numberOfLeadingZeros_J_25 (by have qe1 := e1.symm; subst qe1; exact Eq.symm (if_pos c2))
