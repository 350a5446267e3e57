-- ===== MotionLab$Ieee.floatBits(J)I
abbrev y_I_floatBits_J : MethodName := ⟨"MotionLab$Ieee", "floatBits", "(J)I"⟩
abbrev b_I_floatBits_J : ByteArray := prog_2_method_25_code
theorem d_I_floatBits_J_0 : decode b_I_floatBits_J 0 = .ok (.lload_n 0, 1) := by decide +kernel
theorem d_I_floatBits_J_1 : decode b_I_floatBits_J 1 = .ok (.invokestatic 13, 3) := by decide +kernel
theorem d_I_floatBits_J_4 : decode b_I_floatBits_J 4 = .ok (.ifCond .eq 6, 3) := by decide +kernel
theorem d_I_floatBits_J_7 : decode b_I_floatBits_J 7 = .ok (.ldc 102, 2) := by decide +kernel
theorem d_I_floatBits_J_9 : decode b_I_floatBits_J 9 = .ok (.ireturn, 1) := by decide +kernel
theorem d_I_floatBits_J_10 : decode b_I_floatBits_J 10 = .ok (.lload_n 0, 1) := by decide +kernel
theorem d_I_floatBits_J_11 : decode b_I_floatBits_J 11 = .ok (.lconst 0, 1) := by decide +kernel
theorem d_I_floatBits_J_12 : decode b_I_floatBits_J 12 = .ok (.lcmp, 1) := by decide +kernel
theorem d_I_floatBits_J_13 : decode b_I_floatBits_J 13 = .ok (.ifCond .ge 8, 3) := by decide +kernel
theorem d_I_floatBits_J_16 : decode b_I_floatBits_J 16 = .ok (.ldc 97, 2) := by decide +kernel
theorem d_I_floatBits_J_18 : decode b_I_floatBits_J 18 = .ok (.goto 4, 3) := by decide +kernel
theorem d_I_floatBits_J_21 : decode b_I_floatBits_J 21 = .ok (.iconst 0, 1) := by decide +kernel
theorem d_I_floatBits_J_22 : decode b_I_floatBits_J 22 = .ok (.istore_n 2, 1) := by decide +kernel
theorem d_I_floatBits_J_23 : decode b_I_floatBits_J 23 = .ok (.lload_n 0, 1) := by decide +kernel
theorem d_I_floatBits_J_24 : decode b_I_floatBits_J 24 = .ok (.ldc2_w 9, 3) := by decide +kernel
theorem d_I_floatBits_J_27 : decode b_I_floatBits_J 27 = .ok (.land, 1) := by decide +kernel
theorem d_I_floatBits_J_28 : decode b_I_floatBits_J 28 = .ok (.lstore_n 3, 1) := by decide +kernel
theorem d_I_floatBits_J_29 : decode b_I_floatBits_J 29 = .ok (.lload_n 3, 1) := by decide +kernel
theorem d_I_floatBits_J_30 : decode b_I_floatBits_J 30 = .ok (.ldc2_w 11, 3) := by decide +kernel
theorem d_I_floatBits_J_33 : decode b_I_floatBits_J 33 = .ok (.lcmp, 1) := by decide +kernel
theorem d_I_floatBits_J_34 : decode b_I_floatBits_J 34 = .ok (.ifCond .ne 8, 3) := by decide +kernel
theorem d_I_floatBits_J_37 : decode b_I_floatBits_J 37 = .ok (.iload_n 2, 1) := by decide +kernel
theorem d_I_floatBits_J_38 : decode b_I_floatBits_J 38 = .ok (.ldc 99, 2) := by decide +kernel
theorem d_I_floatBits_J_40 : decode b_I_floatBits_J 40 = .ok (.ior, 1) := by decide +kernel
theorem d_I_floatBits_J_41 : decode b_I_floatBits_J 41 = .ok (.ireturn, 1) := by decide +kernel
theorem d_I_floatBits_J_42 : decode b_I_floatBits_J 42 = .ok (.lload_n 3, 1) := by decide +kernel
theorem d_I_floatBits_J_43 : decode b_I_floatBits_J 43 = .ok (.ldc2_w 103, 3) := by decide +kernel
theorem d_I_floatBits_J_46 : decode b_I_floatBits_J 46 = .ok (.lcmp, 1) := by decide +kernel
theorem d_I_floatBits_J_47 : decode b_I_floatBits_J 47 = .ok (.ifCond .lt 18, 3) := by decide +kernel
theorem d_I_floatBits_J_50 : decode b_I_floatBits_J 50 = .ok (.iload_n 2, 1) := by decide +kernel
theorem d_I_floatBits_J_51 : decode b_I_floatBits_J 51 = .ok (.lload_n 3, 1) := by decide +kernel
theorem d_I_floatBits_J_52 : decode b_I_floatBits_J 52 = .ok (.ldc2_w 103, 3) := by decide +kernel
theorem d_I_floatBits_J_55 : decode b_I_floatBits_J 55 = .ok (.lsub, 1) := by decide +kernel
theorem d_I_floatBits_J_56 : decode b_I_floatBits_J 56 = .ok (.bipush 29, 2) := by decide +kernel
theorem d_I_floatBits_J_58 : decode b_I_floatBits_J 58 = .ok (.lushr, 1) := by decide +kernel
theorem d_I_floatBits_J_59 : decode b_I_floatBits_J 59 = .ok (.l2i, 1) := by decide +kernel
theorem d_I_floatBits_J_60 : decode b_I_floatBits_J 60 = .ok (.ldc 101, 2) := by decide +kernel
theorem d_I_floatBits_J_62 : decode b_I_floatBits_J 62 = .ok (.iadd, 1) := by decide +kernel
theorem d_I_floatBits_J_63 : decode b_I_floatBits_J 63 = .ok (.ior, 1) := by decide +kernel
theorem d_I_floatBits_J_64 : decode b_I_floatBits_J 64 = .ok (.ireturn, 1) := by decide +kernel
theorem d_I_floatBits_J_65 : decode b_I_floatBits_J 65 = .ok (.lload_n 3, 1) := by decide +kernel
theorem d_I_floatBits_J_66 : decode b_I_floatBits_J 66 = .ok (.lconst 0, 1) := by decide +kernel
theorem d_I_floatBits_J_67 : decode b_I_floatBits_J 67 = .ok (.lcmp, 1) := by decide +kernel
theorem d_I_floatBits_J_68 : decode b_I_floatBits_J 68 = .ok (.ifCond .ne 7, 3) := by decide +kernel
theorem d_I_floatBits_J_71 : decode b_I_floatBits_J 71 = .ok (.iload_n 2, 1) := by decide +kernel
theorem d_I_floatBits_J_72 : decode b_I_floatBits_J 72 = .ok (.goto 19, 3) := by decide +kernel
theorem d_I_floatBits_J_75 : decode b_I_floatBits_J 75 = .ok (.iload_n 2, 1) := by decide +kernel
theorem d_I_floatBits_J_76 : decode b_I_floatBits_J 76 = .ok (.lload_n 0, 1) := by decide +kernel
theorem d_I_floatBits_J_77 : decode b_I_floatBits_J 77 = .ok (.invokestatic 45, 3) := by decide +kernel
theorem d_I_floatBits_J_80 : decode b_I_floatBits_J 80 = .ok (.sipush (-149), 3) := by decide +kernel
theorem d_I_floatBits_J_83 : decode b_I_floatBits_J 83 = .ok (.lload_n 0, 1) := by decide +kernel
theorem d_I_floatBits_J_84 : decode b_I_floatBits_J 84 = .ok (.invokestatic 41, 3) := by decide +kernel
theorem d_I_floatBits_J_87 : decode b_I_floatBits_J 87 = .ok (.isub, 1) := by decide +kernel
theorem d_I_floatBits_J_88 : decode b_I_floatBits_J 88 = .ok (.lushr, 1) := by decide +kernel
theorem d_I_floatBits_J_89 : decode b_I_floatBits_J 89 = .ok (.l2i, 1) := by decide +kernel
theorem d_I_floatBits_J_90 : decode b_I_floatBits_J 90 = .ok (.ior, 1) := by decide +kernel
theorem d_I_floatBits_J_91 : decode b_I_floatBits_J 91 = .ok (.ireturn, 1) := by decide +kernel
def f_I_floatBits_J_22 (x0 : Int64) (s0 : Int32) : Int32 :=
  let v1 : Int64 := x0 &&& (9223372036854775807 : Int64)
  if (lg_cmp v1 (9218868437227405312 : Int64)) = 0 then
    s0 ||| (2139095040 : Int32)
  else
    if (lg_cmp v1 (4039728865751334912 : Int64)) < 0 then
      if (lg_cmp v1 (0 : Int64)) = 0 then
        s0
      else
        s0 ||| ((j_ushr (f_I_significand_J x0) ((-149 : Int32) - (f_I_power_J x0))).toInt32)
    else
      s0 ||| (((j_ushr (v1 - (4039728865751334912 : Int64)) (29 : Int32)).toInt32) + (8388608 : Int32))
set_option maxHeartbeats 4000000 in
set_option maxRecDepth 100000 in
theorem k_I_floatBits_J_22 {p : Program} {l : Launch} {e : Env} {s : State} {m : MethodId} {args : Array Value} {below : List Frame} {meth : Method} {c : Code} (C0 : pu_C p s m args meth c b_I_floatBits_J 5 "MotionLab$Ieee" (some .int) (gw y_I_floatBits_J b_I_floatBits_J 5 (some .int))) (x0 : Int64) (s0 : Int32) (ls : Array Slot) (hl : lv_has ls 5 [(0, .long x0)]) {w : Int32} (hw : w = f_I_floatBits_J_22 x0 s0) : W p l e (headSpec (gw y_I_floatBits_J b_I_floatBits_J 5 (some .int)) ({ frames := 2, cells := 0, slots := 0, locals := 43 } : Room)).room s m args below meth c s.heap [] 0 0 (pu_Qi w below args s) (F0 m 22 ls [.int s0]) := by
  obtain ⟨hx, hb, hml, hown, hts, hr, hlocks⟩ := id C0
  refine lv_istore_n (lv' := [(2, .int s0), (0, .long x0)]) hx hb d_I_floatBits_J_22 rfl hl (by decide) rfl (fun ls hl => ?_)
  refine lv_lload_n hx hb d_I_floatBits_J_23 rfl (lv_at hl 1 rfl) ?_
  refine lv_ldc2 (v := (9223372036854775807 : Int64)) hx hb hown (hts _ (gm tw_84)) d_I_floatBits_J_24 ?_
  refine lv_land hx hb d_I_floatBits_J_27 ?_
  refine lv_topl (fun v1 e1 => ?_)
  refine lv_lstore_n (lv' := [(3, .long v1), (2, .int s0), (0, .long x0)]) hx hb d_I_floatBits_J_28 rfl hl (by decide) rfl (fun ls hl => ?_)
  refine lv_lload_n hx hb d_I_floatBits_J_29 rfl (lv_at hl 0 rfl) ?_
  refine lv_ldc2 (v := (9218868437227405312 : Int64)) hx hb hown (hts _ (gm tw_85)) d_I_floatBits_J_30 ?_
  refine W.lcmp hx hb d_I_floatBits_J_33 ?_
  refine lv_if_ne (tgt := 42) hx hb d_I_floatBits_J_34 (by decide) (fun c2 => ?_) (fun c2 => ?_)
  · refine lv_lload_n hx hb d_I_floatBits_J_42 rfl (lv_at hl 0 rfl) ?_
    refine lv_ldc2 (v := (4039728865751334912 : Int64)) hx hb hown (hts _ (gm tw_407)) d_I_floatBits_J_43 ?_
    refine W.lcmp hx hb d_I_floatBits_J_46 ?_
    refine lv_if_lt (tgt := 65) hx hb d_I_floatBits_J_47 (by decide) (fun c3 => ?_) (fun c3 => ?_)
    · refine lv_lload_n hx hb d_I_floatBits_J_65 rfl (lv_at hl 0 rfl) ?_
      refine lv_lconst (v := (0 : Int64)) hx hb d_I_floatBits_J_66 (by decide) ?_
      refine W.lcmp hx hb d_I_floatBits_J_67 ?_
      refine lv_if_ne (tgt := 75) hx hb d_I_floatBits_J_68 (by decide) (fun c4 => ?_) (fun c4 => ?_)
      · refine lv_iload_n hx hb d_I_floatBits_J_75 rfl (lv_at hl 1 rfl) ?_
        refine lv_lload_n hx hb d_I_floatBits_J_76 rfl (lv_at hl 2 rfl) ?_
        refine pu_l (As := [.long x0]) (rest := [.int s0]) ⟨hx, hb, hml, hown, hts⟩ (c_I_significand_J l _ x0) pu_pre (gw_call (k := 1) hts tw_100 tw_101 tw_5 tw_102 (by decide +kernel) rfl rfl ⟨Nat.le_of_ble_eq_true rfl, Nat.le_of_ble_eq_true rfl⟩) rfl hl.1 rfl (Nat.le_of_ble_eq_true rfl) ⟨Nat.zero_le _, Nat.zero_le _⟩ d_I_floatBits_J_77 ?_
        refine lv_sipush (v := (-149 : Int32)) hx hb d_I_floatBits_J_80 (by decide) ?_
        refine lv_lload_n hx hb d_I_floatBits_J_83 rfl (lv_at hl 2 rfl) ?_
        refine pu_i (As := [.long x0]) (rest := [.int (-149 : Int32), .long (f_I_significand_J x0), .int s0]) ⟨hx, hb, hml, hown, hts⟩ (c_I_power_J l _ x0) pu_pre (gw_call (k := 1) hts tw_94 tw_95 tw_5 tw_96 (by decide +kernel) rfl rfl ⟨Nat.le_of_ble_eq_true rfl, Nat.le_of_ble_eq_true rfl⟩) rfl hl.1 rfl (Nat.le_of_ble_eq_true rfl) ⟨Nat.zero_le _, Nat.zero_le _⟩ d_I_floatBits_J_84 ?_
        refine lv_isub hx hb d_I_floatBits_J_87 ?_
        refine lv_lushr (v := j_ushr (f_I_significand_J x0) ((-149 : Int32) - (f_I_power_J x0))) hx hb d_I_floatBits_J_88 rfl ?_
        refine lv_l2i hx hb d_I_floatBits_J_89 rfl ?_
        refine lv_ior hx hb d_I_floatBits_J_90 ?_
        exact pu_iret hx hb hr hlocks d_I_floatBits_J_91 (by have qe1 := e1.symm; subst qe1; exact Eq.symm (hw.trans (Eq.trans (if_neg c2) (Eq.trans (if_pos c3) (if_neg c4)))))
      · refine lv_iload_n hx hb d_I_floatBits_J_71 rfl (lv_at hl 1 rfl) ?_
        refine lv_goto (tgt := 91) hx hb d_I_floatBits_J_72 (by decide) ?_
        exact pu_iret hx hb hr hlocks d_I_floatBits_J_91 (by have qe1 := e1.symm; subst qe1; exact Eq.symm (hw.trans (Eq.trans (if_neg c2) (Eq.trans (if_pos c3) (if_pos c4)))))
    · refine lv_iload_n hx hb d_I_floatBits_J_50 rfl (lv_at hl 1 rfl) ?_
      refine lv_lload_n hx hb d_I_floatBits_J_51 rfl (lv_at hl 0 rfl) ?_
      refine lv_ldc2 (v := (4039728865751334912 : Int64)) hx hb hown (hts _ (gm tw_407)) d_I_floatBits_J_52 ?_
      refine lv_lsub hx hb d_I_floatBits_J_55 ?_
      refine lv_bipush (v := (29 : Int32)) hx hb d_I_floatBits_J_56 (by decide) ?_
      refine lv_lushr (v := j_ushr (v1 - (4039728865751334912 : Int64)) (29 : Int32)) hx hb d_I_floatBits_J_58 rfl ?_
      refine lv_l2i hx hb d_I_floatBits_J_59 rfl ?_
      refine lv_ldc (v := (8388608 : Int32)) hx hb hown (hts _ (gm tw_149)) d_I_floatBits_J_60 ?_
      refine lv_iadd hx hb d_I_floatBits_J_62 ?_
      refine lv_ior hx hb d_I_floatBits_J_63 ?_
      exact pu_iret hx hb hr hlocks d_I_floatBits_J_64 (by have qe1 := e1.symm; subst qe1; exact Eq.symm (hw.trans (Eq.trans (if_neg c2) (if_neg c3))))
  · refine lv_iload_n hx hb d_I_floatBits_J_37 rfl (lv_at hl 1 rfl) ?_
    refine lv_ldc (v := (2139095040 : Int32)) hx hb hown (hts _ (gm tw_147)) d_I_floatBits_J_38 ?_
    refine lv_ior hx hb d_I_floatBits_J_40 ?_
    exact pu_iret hx hb hr hlocks d_I_floatBits_J_41 (by have qe1 := e1.symm; subst qe1; exact Eq.symm (hw.trans (if_pos c2)))
def f_I_floatBits_J (x0 : Int64) : Int32 :=
  if (f_I_isNoNumber_J x0) = 0 then
    if 0 ≤ (lg_cmp x0 (0 : Int64)) then
      f_I_floatBits_J_22 x0 (0 : Int32)
    else
      f_I_floatBits_J_22 x0 (-2147483648 : Int32)
  else
    (2143289344 : Int32)
set_option maxHeartbeats 4000000 in
set_option maxRecDepth 100000 in
theorem c_I_floatBits_J (l : Launch) (h : Heap) (x0 : Int64) : Met l y_I_floatBits_J (gw y_I_floatBits_J b_I_floatBits_J 5 (some .int)) { frames := 2, cells := 0, slots := 0, locals := 43 } (pu_Pc [.long x0] h) (pu_Mi (f_I_floatBits_J x0) h) 0 0 (fun _ => False) := by
  refine Met.ofW (cc := b_I_floatBits_J) (maxL := 5) (ret := (some .int)) (by decide) rfl ?_
  intro p e s m args below meth c s₁ B hml hv
  obtain ⟨rfl, hh⟩ := hv
  subst hh
  have hx := B.exec
  have hb := B.bytes
  have hr := B.returns
  have hts := atoms_spec (ws := (gw y_I_floatBits_J b_I_floatBits_J 5 (some .int))) B.pre
  have hown : s.vm.findClass "MotionLab$Ieee" = some m.cls := findClass_of_methodNamed B.named
  have hlocks := B.notSynchronized
  have C0 : pu_C p s m _ meth c b_I_floatBits_J 5 "MotionLab$Ieee" (some .int) (gw y_I_floatBits_J b_I_floatBits_J 5 (some .int)) := ⟨hx, hb, hml, hown, hts, hr, hlocks⟩
  have hl := lv_entry ([.long x0]) (n := 5) (Nat.le_of_ble_eq_true rfl)
  rw [lg_entry_eq]
  generalize (lg_sl ([.long x0]) ++ List.replicate (5 - (lg_sl ([.long x0])).length) Slot.unset).toArray = ls at hl ⊢
  have hl : lv_has ls 5 [(0, .long x0)] := hl
  refine lv_lload_n hx hb d_I_floatBits_J_0 rfl (lv_at hl 0 rfl) ?_
  refine pu_i (As := [.long x0]) (rest := []) ⟨hx, hb, hml, hown, hts⟩ (c_I_isNoNumber_J l _ x0) pu_pre (gw_call (k := 1) hts tw_89 tw_90 tw_5 tw_91 (by decide +kernel) rfl rfl ⟨Nat.le_of_ble_eq_true rfl, Nat.le_of_ble_eq_true rfl⟩) rfl hl.1 rfl (Nat.le_of_ble_eq_true rfl) ⟨Nat.zero_le _, Nat.zero_le _⟩ d_I_floatBits_J_1 ?_
  refine lv_if_eq (tgt := 10) hx hb d_I_floatBits_J_4 (by decide) (fun c1 => ?_) (fun c1 => ?_)
  · refine lv_lload_n hx hb d_I_floatBits_J_10 rfl (lv_at hl 0 rfl) ?_
    refine lv_lconst (v := (0 : Int64)) hx hb d_I_floatBits_J_11 (by decide) ?_
    refine W.lcmp hx hb d_I_floatBits_J_12 ?_
    refine lv_if_ge (tgt := 21) hx hb d_I_floatBits_J_13 (by decide) (fun c2 => ?_) (fun c2 => ?_)
    · refine lv_iconst (v := 0) hx hb d_I_floatBits_J_21 (by decide) ?_
      exact k_I_floatBits_J_22 C0 x0 (0 : Int32) ls (lv_sub hl [0] rfl) (by exact (Eq.trans (if_pos c1) (if_pos c2)))
    · refine lv_ldc (v := (-2147483648 : Int32)) hx hb hown (hts _ (gm tw_145)) d_I_floatBits_J_16 ?_
      refine lv_goto (tgt := 22) hx hb d_I_floatBits_J_18 (by decide) ?_
      exact k_I_floatBits_J_22 C0 x0 (-2147483648 : Int32) ls (lv_sub hl [0] rfl) (by exact (Eq.trans (if_pos c1) (if_neg c2)))
  · refine lv_ldc (v := (2143289344 : Int32)) hx hb hown (hts _ (gm tw_406)) d_I_floatBits_J_7 ?_
    exact pu_iret hx hb hr hlocks d_I_floatBits_J_9 (by exact Eq.symm (if_neg c1))
-- ===== MotionLabModel.in(II)Z
abbrev y_M_in_II : MethodName := ⟨"MotionLabModel", "in", "(II)Z"⟩
abbrev b_M_in_II : ByteArray := prog_6_method_32_code
theorem d_M_in_II_0 : decode b_M_in_II 0 = .ok (.iload_n 0, 1) := by decide +kernel
theorem d_M_in_II_1 : decode b_M_in_II 1 = .ok (.ifCond .lt 12, 3) := by decide +kernel
theorem d_M_in_II_4 : decode b_M_in_II 4 = .ok (.iload_n 0, 1) := by decide +kernel
theorem d_M_in_II_5 : decode b_M_in_II 5 = .ok (.iload_n 1, 1) := by decide +kernel
theorem d_M_in_II_6 : decode b_M_in_II 6 = .ok (.if_icmp .ge 7, 3) := by decide +kernel
theorem d_M_in_II_9 : decode b_M_in_II 9 = .ok (.iconst 1, 1) := by decide +kernel
theorem d_M_in_II_10 : decode b_M_in_II 10 = .ok (.goto 4, 3) := by decide +kernel
theorem d_M_in_II_13 : decode b_M_in_II 13 = .ok (.iconst 0, 1) := by decide +kernel
theorem d_M_in_II_14 : decode b_M_in_II 14 = .ok (.ireturn, 1) := by decide +kernel
def f_M_in_II (x0 : Int32) (x1 : Int32) : Int32 :=
  if x0 < 0 then
    (0 : Int32)
  else
    if x1 ≤ x0 then
      (0 : Int32)
    else
      (1 : Int32)
set_option maxHeartbeats 4000000 in
set_option maxRecDepth 100000 in
theorem c_M_in_II (l : Launch) (h : Heap) (x0 : Int32) (x1 : Int32) : Met l y_M_in_II (gw y_M_in_II b_M_in_II 2 (some .boolean)) { frames := 0, cells := 0, slots := 0, locals := 0 } (pu_Pc [.int x0, .int x1] h) (pu_Mi (f_M_in_II x0 x1) h) 0 0 (fun _ => False) := by
  refine Met.ofW (cc := b_M_in_II) (maxL := 2) (ret := (some .boolean)) (by decide) rfl ?_
  intro p e s m args below meth c s₁ B hml hv
  obtain ⟨rfl, hh⟩ := hv
  subst hh
  have hx := B.exec
  have hb := B.bytes
  have hr := B.returns
  have hts := atoms_spec (ws := (gw y_M_in_II b_M_in_II 2 (some .boolean))) B.pre
  have hown : s.vm.findClass "MotionLabModel" = some m.cls := findClass_of_methodNamed B.named
  have hlocks := B.notSynchronized
  have C0 : pu_C p s m _ meth c b_M_in_II 2 "MotionLabModel" (some .boolean) (gw y_M_in_II b_M_in_II 2 (some .boolean)) := ⟨hx, hb, hml, hown, hts, hr, hlocks⟩
  have hl := lv_entry ([.int x0, .int x1]) (n := 2) (Nat.le_of_ble_eq_true rfl)
  rw [lg_entry_eq]
  generalize (lg_sl ([.int x0, .int x1]) ++ List.replicate (2 - (lg_sl ([.int x0, .int x1])).length) Slot.unset).toArray = ls at hl ⊢
  have hl : lv_has ls 2 [(0, .int x0), (1, .int x1)] := hl
  refine lv_iload_n hx hb d_M_in_II_0 rfl (lv_at hl 0 rfl) ?_
  refine lv_if_lt (tgt := 13) hx hb d_M_in_II_1 (by decide) (fun c1 => ?_) (fun c1 => ?_)
  · refine lv_iconst (v := 0) hx hb d_M_in_II_13 (by decide) ?_
    exact pu_zret hx hb hr rfl hlocks d_M_in_II_14 (by exact Eq.symm (if_pos c1))
  · refine lv_iload_n hx hb d_M_in_II_4 rfl (lv_at hl 0 rfl) ?_
    refine lv_iload_n hx hb d_M_in_II_5 rfl (lv_at hl 1 rfl) ?_
    refine lv_icmp_ge (tgt := 13) hx hb d_M_in_II_6 (by decide) (fun c2 => ?_) (fun c2 => ?_)
    · refine lv_iconst (v := 0) hx hb d_M_in_II_13 (by decide) ?_
      exact pu_zret hx hb hr rfl hlocks d_M_in_II_14 (by exact Eq.symm (Eq.trans (if_neg c1) (if_pos c2)))
    · refine lv_iconst (v := 1) hx hb d_M_in_II_9 (by decide) ?_
      refine lv_goto (tgt := 14) hx hb d_M_in_II_10 (by decide) ?_
      exact pu_zret hx hb hr rfl hlocks d_M_in_II_14 (by exact Eq.symm (Eq.trans (if_neg c1) (if_neg c2)))
-- ===== MotionLabModel.wide(I)I
abbrev y_M_wide_I : MethodName := ⟨"MotionLabModel", "wide", "(I)I"⟩
abbrev b_M_wide_I : ByteArray := prog_6_method_1_code
theorem d_M_wide_I_0 : decode b_M_wide_I 0 = .ok (.iload_n 0, 1) := by decide +kernel
theorem d_M_wide_I_1 : decode b_M_wide_I 1 = .ok (.ifCond .ne 8, 3) := by decide +kernel
theorem d_M_wide_I_4 : decode b_M_wide_I 4 = .ok (.bipush 64, 2) := by decide +kernel
theorem d_M_wide_I_6 : decode b_M_wide_I 6 = .ok (.goto 5, 3) := by decide +kernel
theorem d_M_wide_I_9 : decode b_M_wide_I 9 = .ok (.bipush 32, 2) := by decide +kernel
theorem d_M_wide_I_11 : decode b_M_wide_I 11 = .ok (.ireturn, 1) := by decide +kernel
def f_M_wide_I (x0 : Int32) : Int32 :=
  if x0 = 0 then
    (64 : Int32)
  else
    (32 : Int32)
set_option maxHeartbeats 4000000 in
set_option maxRecDepth 100000 in
theorem c_M_wide_I (l : Launch) (h : Heap) (x0 : Int32) : Met l y_M_wide_I (gw y_M_wide_I b_M_wide_I 1 (some .int)) { frames := 0, cells := 0, slots := 0, locals := 0 } (pu_Pc [.int x0] h) (pu_Mi (f_M_wide_I x0) h) 0 0 (fun _ => False) := by
  refine Met.ofW (cc := b_M_wide_I) (maxL := 1) (ret := (some .int)) (by decide) rfl ?_
  intro p e s m args below meth c s₁ B hml hv
  obtain ⟨rfl, hh⟩ := hv
  subst hh
  have hx := B.exec
  have hb := B.bytes
  have hr := B.returns
  have hts := atoms_spec (ws := (gw y_M_wide_I b_M_wide_I 1 (some .int))) B.pre
  have hown : s.vm.findClass "MotionLabModel" = some m.cls := findClass_of_methodNamed B.named
  have hlocks := B.notSynchronized
  have C0 : pu_C p s m _ meth c b_M_wide_I 1 "MotionLabModel" (some .int) (gw y_M_wide_I b_M_wide_I 1 (some .int)) := ⟨hx, hb, hml, hown, hts, hr, hlocks⟩
  have hl := lv_entry ([.int x0]) (n := 1) (Nat.le_of_ble_eq_true rfl)
  rw [lg_entry_eq]
  generalize (lg_sl ([.int x0]) ++ List.replicate (1 - (lg_sl ([.int x0])).length) Slot.unset).toArray = ls at hl ⊢
  have hl : lv_has ls 1 [(0, .int x0)] := hl
  refine lv_iload_n hx hb d_M_wide_I_0 rfl (lv_at hl 0 rfl) ?_
  refine lv_if_ne (tgt := 9) hx hb d_M_wide_I_1 (by decide) (fun c1 => ?_) (fun c1 => ?_)
  · refine lv_bipush (v := (32 : Int32)) hx hb d_M_wide_I_9 (by decide) ?_
    exact pu_iret hx hb hr hlocks d_M_wide_I_11 (by exact Eq.symm (if_neg c1))
  · refine lv_bipush (v := (64 : Int32)) hx hb d_M_wide_I_4 (by decide) ?_
    refine lv_goto (tgt := 11) hx hb d_M_wide_I_6 (by decide) ?_
    exact pu_iret hx hb hr hlocks d_M_wide_I_11 (by exact Eq.symm (if_pos c1))
-- ===== MotionLabModel.size(JI)J
abbrev y_M_size_JI : MethodName := ⟨"MotionLabModel", "size", "(JI)J"⟩
abbrev b_M_size_JI : ByteArray := prog_6_method_3_code
theorem d_M_size_JI_0 : decode b_M_size_JI 0 = .ok (.lload_n 0, 1) := by decide +kernel
theorem d_M_size_JI_1 : decode b_M_size_JI 1 = .ok (.lconst 1, 1) := by decide +kernel
theorem d_M_size_JI_2 : decode b_M_size_JI 2 = .ok (.iload_n 2, 1) := by decide +kernel
theorem d_M_size_JI_3 : decode b_M_size_JI 3 = .ok (.invokestatic 1, 3) := by decide +kernel
theorem d_M_size_JI_6 : decode b_M_size_JI 6 = .ok (.iconst 1, 1) := by decide +kernel
theorem d_M_size_JI_7 : decode b_M_size_JI 7 = .ok (.isub, 1) := by decide +kernel
theorem d_M_size_JI_8 : decode b_M_size_JI 8 = .ok (.lshl, 1) := by decide +kernel
theorem d_M_size_JI_9 : decode b_M_size_JI 9 = .ok (.lconst 1, 1) := by decide +kernel
theorem d_M_size_JI_10 : decode b_M_size_JI 10 = .ok (.lsub, 1) := by decide +kernel
theorem d_M_size_JI_11 : decode b_M_size_JI 11 = .ok (.land, 1) := by decide +kernel
theorem d_M_size_JI_12 : decode b_M_size_JI 12 = .ok (.lreturn, 1) := by decide +kernel
def f_M_size_JI (x0 : Int64) (x2 : Int32) : Int64 :=
  x0 &&& ((j_shl (1 : Int64) ((f_M_wide_I x2) - (1 : Int32))) - (1 : Int64))
set_option maxHeartbeats 4000000 in
set_option maxRecDepth 100000 in
theorem c_M_size_JI (l : Launch) (h : Heap) (x0 : Int64) (x2 : Int32) : Met l y_M_size_JI (gw y_M_size_JI b_M_size_JI 3 (some .long)) { frames := 1, cells := 0, slots := 0, locals := 20 } (pu_Pc [.long x0, .int x2] h) (pu_Ml (f_M_size_JI x0 x2) h) 0 0 (fun _ => False) := by
  refine Met.ofW (cc := b_M_size_JI) (maxL := 3) (ret := (some .long)) (by decide) rfl ?_
  intro p e s m args below meth c s₁ B hml hv
  obtain ⟨rfl, hh⟩ := hv
  subst hh
  have hx := B.exec
  have hb := B.bytes
  have hr := B.returns
  have hts := atoms_spec (ws := (gw y_M_size_JI b_M_size_JI 3 (some .long))) B.pre
  have hown : s.vm.findClass "MotionLabModel" = some m.cls := findClass_of_methodNamed B.named
  have hlocks := B.notSynchronized
  have C0 : pu_C p s m _ meth c b_M_size_JI 3 "MotionLabModel" (some .long) (gw y_M_size_JI b_M_size_JI 3 (some .long)) := ⟨hx, hb, hml, hown, hts, hr, hlocks⟩
  have hl := lv_entry ([.long x0, .int x2]) (n := 3) (Nat.le_of_ble_eq_true rfl)
  rw [lg_entry_eq]
  generalize (lg_sl ([.long x0, .int x2]) ++ List.replicate (3 - (lg_sl ([.long x0, .int x2])).length) Slot.unset).toArray = ls at hl ⊢
  have hl : lv_has ls 3 [(0, .long x0), (2, .int x2)] := hl
  refine lv_lload_n hx hb d_M_size_JI_0 rfl (lv_at hl 0 rfl) ?_
  refine lv_lconst (v := (1 : Int64)) hx hb d_M_size_JI_1 (by decide) ?_
  refine lv_iload_n hx hb d_M_size_JI_2 rfl (lv_at hl 1 rfl) ?_
  refine pu_i (As := [.int x2]) (rest := [.long (1 : Int64), .long x0]) ⟨hx, hb, hml, hown, hts⟩ (c_M_wide_I l _ x2) pu_pre (gw_call (k := 1) hts tw_504 tw_505 tw_4 tw_506 (by decide +kernel) rfl rfl ⟨Nat.le_of_ble_eq_true rfl, Nat.le_of_ble_eq_true rfl⟩) rfl hl.1 rfl (Nat.le_of_ble_eq_true rfl) ⟨Nat.zero_le _, Nat.zero_le _⟩ d_M_size_JI_3 ?_
  refine lv_iconst (v := 1) hx hb d_M_size_JI_6 (by decide) ?_
  refine lv_isub hx hb d_M_size_JI_7 ?_
  refine lv_lshl (v := j_shl (1 : Int64) ((f_M_wide_I x2) - (1 : Int32))) hx hb d_M_size_JI_8 rfl ?_
  refine lv_lconst (v := (1 : Int64)) hx hb d_M_size_JI_9 (by decide) ?_
  refine lv_lsub hx hb d_M_size_JI_10 ?_
  refine lv_land hx hb d_M_size_JI_11 ?_
  exact pu_lret hx hb hr hlocks d_M_size_JI_12 (by exact Eq.symm rfl)
-- ===== MotionLabModel.infinite(I)J
abbrev y_M_infinite_I : MethodName := ⟨"MotionLabModel", "infinite", "(I)J"⟩
abbrev b_M_infinite_I : ByteArray := prog_6_method_4_code
theorem d_M_infinite_I_0 : decode b_M_infinite_I 0 = .ok (.iload_n 0, 1) := by decide +kernel
theorem d_M_infinite_I_1 : decode b_M_infinite_I 1 = .ok (.ifCond .ne 9, 3) := by decide +kernel
theorem d_M_infinite_I_4 : decode b_M_infinite_I 4 = .ok (.ldc2_w 7, 3) := by decide +kernel
theorem d_M_infinite_I_7 : decode b_M_infinite_I 7 = .ok (.goto 6, 3) := by decide +kernel
theorem d_M_infinite_I_10 : decode b_M_infinite_I 10 = .ok (.ldc2_w 9, 3) := by decide +kernel
theorem d_M_infinite_I_13 : decode b_M_infinite_I 13 = .ok (.lreturn, 1) := by decide +kernel
def f_M_infinite_I (x0 : Int32) : Int64 :=
  if x0 = 0 then
    (9218868437227405312 : Int64)
  else
    (2139095040 : Int64)
set_option maxHeartbeats 4000000 in
set_option maxRecDepth 100000 in
theorem c_M_infinite_I (l : Launch) (h : Heap) (x0 : Int32) : Met l y_M_infinite_I (gw y_M_infinite_I b_M_infinite_I 1 (some .long)) { frames := 0, cells := 0, slots := 0, locals := 0 } (pu_Pc [.int x0] h) (pu_Ml (f_M_infinite_I x0) h) 0 0 (fun _ => False) := by
  refine Met.ofW (cc := b_M_infinite_I) (maxL := 1) (ret := (some .long)) (by decide) rfl ?_
  intro p e s m args below meth c s₁ B hml hv
  obtain ⟨rfl, hh⟩ := hv
  subst hh
  have hx := B.exec
  have hb := B.bytes
  have hr := B.returns
  have hts := atoms_spec (ws := (gw y_M_infinite_I b_M_infinite_I 1 (some .long))) B.pre
  have hown : s.vm.findClass "MotionLabModel" = some m.cls := findClass_of_methodNamed B.named
  have hlocks := B.notSynchronized
  have C0 : pu_C p s m _ meth c b_M_infinite_I 1 "MotionLabModel" (some .long) (gw y_M_infinite_I b_M_infinite_I 1 (some .long)) := ⟨hx, hb, hml, hown, hts, hr, hlocks⟩
  have hl := lv_entry ([.int x0]) (n := 1) (Nat.le_of_ble_eq_true rfl)
  rw [lg_entry_eq]
  generalize (lg_sl ([.int x0]) ++ List.replicate (1 - (lg_sl ([.int x0])).length) Slot.unset).toArray = ls at hl ⊢
  have hl : lv_has ls 1 [(0, .int x0)] := hl
  refine lv_iload_n hx hb d_M_infinite_I_0 rfl (lv_at hl 0 rfl) ?_
  refine lv_if_ne (tgt := 10) hx hb d_M_infinite_I_1 (by decide) (fun c1 => ?_) (fun c1 => ?_)
  · refine lv_ldc2 (v := (2139095040 : Int64)) hx hb hown (hts _ (gm tw_510)) d_M_infinite_I_10 ?_
    exact pu_lret hx hb hr hlocks d_M_infinite_I_13 (by exact Eq.symm (if_neg c1))
  · refine lv_ldc2 (v := (9218868437227405312 : Int64)) hx hb hown (hts _ (gm tw_419)) d_M_infinite_I_4 ?_
    refine lv_goto (tgt := 13) hx hb d_M_infinite_I_7 (by decide) ?_
    exact pu_lret hx hb hr hlocks d_M_infinite_I_13 (by exact Eq.symm (if_pos c1))
-- ===== MotionLabModel.isNone(JI)Z
abbrev y_M_isNone_JI : MethodName := ⟨"MotionLabModel", "isNone", "(JI)Z"⟩
abbrev b_M_isNone_JI : ByteArray := prog_6_method_6_code
theorem d_M_isNone_JI_0 : decode b_M_isNone_JI 0 = .ok (.lload_n 0, 1) := by decide +kernel
theorem d_M_isNone_JI_1 : decode b_M_isNone_JI 1 = .ok (.iload_n 2, 1) := by decide +kernel
theorem d_M_isNone_JI_2 : decode b_M_isNone_JI 2 = .ok (.invokestatic 15, 3) := by decide +kernel
theorem d_M_isNone_JI_5 : decode b_M_isNone_JI 5 = .ok (.iload_n 2, 1) := by decide +kernel
theorem d_M_isNone_JI_6 : decode b_M_isNone_JI 6 = .ok (.invokestatic 19, 3) := by decide +kernel
theorem d_M_isNone_JI_9 : decode b_M_isNone_JI 9 = .ok (.lcmp, 1) := by decide +kernel
theorem d_M_isNone_JI_10 : decode b_M_isNone_JI 10 = .ok (.ifCond .le 7, 3) := by decide +kernel
theorem d_M_isNone_JI_13 : decode b_M_isNone_JI 13 = .ok (.iconst 1, 1) := by decide +kernel
theorem d_M_isNone_JI_14 : decode b_M_isNone_JI 14 = .ok (.goto 4, 3) := by decide +kernel
theorem d_M_isNone_JI_17 : decode b_M_isNone_JI 17 = .ok (.iconst 0, 1) := by decide +kernel
theorem d_M_isNone_JI_18 : decode b_M_isNone_JI 18 = .ok (.ireturn, 1) := by decide +kernel
def f_M_isNone_JI (x0 : Int64) (x2 : Int32) : Int32 :=
  if (lg_cmp (f_M_size_JI x0 x2) (f_M_infinite_I x2)) ≤ 0 then
    (0 : Int32)
  else
    (1 : Int32)
set_option maxHeartbeats 4000000 in
set_option maxRecDepth 100000 in
theorem c_M_isNone_JI (l : Launch) (h : Heap) (x0 : Int64) (x2 : Int32) : Met l y_M_isNone_JI (gw y_M_isNone_JI b_M_isNone_JI 3 (some .boolean)) { frames := 2, cells := 0, slots := 0, locals := 42 } (pu_Pc [.long x0, .int x2] h) (pu_Mi (f_M_isNone_JI x0 x2) h) 0 0 (fun _ => False) := by
  refine Met.ofW (cc := b_M_isNone_JI) (maxL := 3) (ret := (some .boolean)) (by decide) rfl ?_
  intro p e s m args below meth c s₁ B hml hv
  obtain ⟨rfl, hh⟩ := hv
  subst hh
  have hx := B.exec
  have hb := B.bytes
  have hr := B.returns
  have hts := atoms_spec (ws := (gw y_M_isNone_JI b_M_isNone_JI 3 (some .boolean))) B.pre
  have hown : s.vm.findClass "MotionLabModel" = some m.cls := findClass_of_methodNamed B.named
  have hlocks := B.notSynchronized
  have C0 : pu_C p s m _ meth c b_M_isNone_JI 3 "MotionLabModel" (some .boolean) (gw y_M_isNone_JI b_M_isNone_JI 3 (some .boolean)) := ⟨hx, hb, hml, hown, hts, hr, hlocks⟩
  have hl := lv_entry ([.long x0, .int x2]) (n := 3) (Nat.le_of_ble_eq_true rfl)
  rw [lg_entry_eq]
  generalize (lg_sl ([.long x0, .int x2]) ++ List.replicate (3 - (lg_sl ([.long x0, .int x2])).length) Slot.unset).toArray = ls at hl ⊢
  have hl : lv_has ls 3 [(0, .long x0), (2, .int x2)] := hl
  refine lv_lload_n hx hb d_M_isNone_JI_0 rfl (lv_at hl 0 rfl) ?_
  refine lv_iload_n hx hb d_M_isNone_JI_1 rfl (lv_at hl 1 rfl) ?_
  refine pu_l (As := [.long x0, .int x2]) (rest := []) ⟨hx, hb, hml, hown, hts⟩ (c_M_size_JI l _ x0 x2) pu_pre (gw_call (k := 2) hts tw_501 tw_502 tw_4 tw_503 (by decide +kernel) rfl rfl ⟨Nat.le_of_ble_eq_true rfl, Nat.le_of_ble_eq_true rfl⟩) rfl hl.1 rfl (Nat.le_of_ble_eq_true rfl) ⟨Nat.zero_le _, Nat.zero_le _⟩ d_M_isNone_JI_2 ?_
  refine lv_iload_n hx hb d_M_isNone_JI_5 rfl (lv_at hl 1 rfl) ?_
  refine pu_l (As := [.int x2]) (rest := [.long (f_M_size_JI x0 x2)]) ⟨hx, hb, hml, hown, hts⟩ (c_M_infinite_I l _ x2) pu_pre (gw_call (k := 1) hts tw_507 tw_508 tw_4 tw_509 (by decide +kernel) rfl rfl ⟨Nat.le_of_ble_eq_true rfl, Nat.le_of_ble_eq_true rfl⟩) rfl hl.1 rfl (Nat.le_of_ble_eq_true rfl) ⟨Nat.zero_le _, Nat.zero_le _⟩ d_M_isNone_JI_6 ?_
  refine W.lcmp hx hb d_M_isNone_JI_9 ?_
  refine lv_if_le (tgt := 17) hx hb d_M_isNone_JI_10 (by decide) (fun c1 => ?_) (fun c1 => ?_)
  · refine lv_iconst (v := 0) hx hb d_M_isNone_JI_17 (by decide) ?_
    exact pu_zret hx hb hr rfl hlocks d_M_isNone_JI_18 (by exact Eq.symm (if_pos c1))
  · refine lv_iconst (v := 1) hx hb d_M_isNone_JI_13 (by decide) ?_
    refine lv_goto (tgt := 18) hx hb d_M_isNone_JI_14 (by decide) ?_
    exact pu_zret hx hb hr rfl hlocks d_M_isNone_JI_18 (by exact Eq.symm (if_neg c1))
-- ===== MotionLabModel.none(I)J
abbrev y_M_none_I : MethodName := ⟨"MotionLabModel", "none", "(I)J"⟩
abbrev b_M_none_I : ByteArray := prog_6_method_5_code
theorem d_M_none_I_0 : decode b_M_none_I 0 = .ok (.iload_n 0, 1) := by decide +kernel
theorem d_M_none_I_1 : decode b_M_none_I 1 = .ok (.ifCond .ne 9, 3) := by decide +kernel
theorem d_M_none_I_4 : decode b_M_none_I 4 = .ok (.ldc2_w 11, 3) := by decide +kernel
theorem d_M_none_I_7 : decode b_M_none_I 7 = .ok (.goto 6, 3) := by decide +kernel
theorem d_M_none_I_10 : decode b_M_none_I 10 = .ok (.ldc2_w 13, 3) := by decide +kernel
theorem d_M_none_I_13 : decode b_M_none_I 13 = .ok (.lreturn, 1) := by decide +kernel
def f_M_none_I (x0 : Int32) : Int64 :=
  if x0 = 0 then
    (9221120237041090560 : Int64)
  else
    (2143289344 : Int64)
set_option maxHeartbeats 4000000 in
set_option maxRecDepth 100000 in
theorem c_M_none_I (l : Launch) (h : Heap) (x0 : Int32) : Met l y_M_none_I (gw y_M_none_I b_M_none_I 1 (some .long)) { frames := 0, cells := 0, slots := 0, locals := 0 } (pu_Pc [.int x0] h) (pu_Ml (f_M_none_I x0) h) 0 0 (fun _ => False) := by
  refine Met.ofW (cc := b_M_none_I) (maxL := 1) (ret := (some .long)) (by decide) rfl ?_
  intro p e s m args below meth c s₁ B hml hv
  obtain ⟨rfl, hh⟩ := hv
  subst hh
  have hx := B.exec
  have hb := B.bytes
  have hr := B.returns
  have hts := atoms_spec (ws := (gw y_M_none_I b_M_none_I 1 (some .long))) B.pre
  have hown : s.vm.findClass "MotionLabModel" = some m.cls := findClass_of_methodNamed B.named
  have hlocks := B.notSynchronized
  have C0 : pu_C p s m _ meth c b_M_none_I 1 "MotionLabModel" (some .long) (gw y_M_none_I b_M_none_I 1 (some .long)) := ⟨hx, hb, hml, hown, hts, hr, hlocks⟩
  have hl := lv_entry ([.int x0]) (n := 1) (Nat.le_of_ble_eq_true rfl)
  rw [lg_entry_eq]
  generalize (lg_sl ([.int x0]) ++ List.replicate (1 - (lg_sl ([.int x0])).length) Slot.unset).toArray = ls at hl ⊢
  have hl : lv_has ls 1 [(0, .int x0)] := hl
  refine lv_iload_n hx hb d_M_none_I_0 rfl (lv_at hl 0 rfl) ?_
  refine lv_if_ne (tgt := 10) hx hb d_M_none_I_1 (by decide) (fun c1 => ?_) (fun c1 => ?_)
  · refine lv_ldc2 (v := (2143289344 : Int64)) hx hb hown (hts _ (gm tw_515)) d_M_none_I_10 ?_
    exact pu_lret hx hb hr hlocks d_M_none_I_13 (by exact Eq.symm (if_neg c1))
  · refine lv_ldc2 (v := (9221120237041090560 : Int64)) hx hb hown (hts _ (gm tw_514)) d_M_none_I_4 ?_
    refine lv_goto (tgt := 13) hx hb d_M_none_I_7 (by decide) ?_
    exact pu_lret hx hb hr hlocks d_M_none_I_13 (by exact Eq.symm (if_pos c1))
-- ===== MotionLabModel.isInfinite(JI)Z
abbrev y_M_isInfinite_JI : MethodName := ⟨"MotionLabModel", "isInfinite", "(JI)Z"⟩
abbrev b_M_isInfinite_JI : ByteArray := prog_6_method_7_code
theorem d_M_isInfinite_JI_0 : decode b_M_isInfinite_JI 0 = .ok (.lload_n 0, 1) := by decide +kernel
theorem d_M_isInfinite_JI_1 : decode b_M_isInfinite_JI 1 = .ok (.iload_n 2, 1) := by decide +kernel
theorem d_M_isInfinite_JI_2 : decode b_M_isInfinite_JI 2 = .ok (.invokestatic 15, 3) := by decide +kernel
theorem d_M_isInfinite_JI_5 : decode b_M_isInfinite_JI 5 = .ok (.iload_n 2, 1) := by decide +kernel
theorem d_M_isInfinite_JI_6 : decode b_M_isInfinite_JI 6 = .ok (.invokestatic 19, 3) := by decide +kernel
theorem d_M_isInfinite_JI_9 : decode b_M_isInfinite_JI 9 = .ok (.lcmp, 1) := by decide +kernel
theorem d_M_isInfinite_JI_10 : decode b_M_isInfinite_JI 10 = .ok (.ifCond .ne 7, 3) := by decide +kernel
theorem d_M_isInfinite_JI_13 : decode b_M_isInfinite_JI 13 = .ok (.iconst 1, 1) := by decide +kernel
theorem d_M_isInfinite_JI_14 : decode b_M_isInfinite_JI 14 = .ok (.goto 4, 3) := by decide +kernel
theorem d_M_isInfinite_JI_17 : decode b_M_isInfinite_JI 17 = .ok (.iconst 0, 1) := by decide +kernel
theorem d_M_isInfinite_JI_18 : decode b_M_isInfinite_JI 18 = .ok (.ireturn, 1) := by decide +kernel
def f_M_isInfinite_JI (x0 : Int64) (x2 : Int32) : Int32 :=
  if (lg_cmp (f_M_size_JI x0 x2) (f_M_infinite_I x2)) = 0 then
    (1 : Int32)
  else
    (0 : Int32)
set_option maxHeartbeats 4000000 in
set_option maxRecDepth 100000 in
theorem c_M_isInfinite_JI (l : Launch) (h : Heap) (x0 : Int64) (x2 : Int32) : Met l y_M_isInfinite_JI (gw y_M_isInfinite_JI b_M_isInfinite_JI 3 (some .boolean)) { frames := 2, cells := 0, slots := 0, locals := 42 } (pu_Pc [.long x0, .int x2] h) (pu_Mi (f_M_isInfinite_JI x0 x2) h) 0 0 (fun _ => False) := by
  refine Met.ofW (cc := b_M_isInfinite_JI) (maxL := 3) (ret := (some .boolean)) (by decide) rfl ?_
  intro p e s m args below meth c s₁ B hml hv
  obtain ⟨rfl, hh⟩ := hv
  subst hh
  have hx := B.exec
  have hb := B.bytes
  have hr := B.returns
  have hts := atoms_spec (ws := (gw y_M_isInfinite_JI b_M_isInfinite_JI 3 (some .boolean))) B.pre
  have hown : s.vm.findClass "MotionLabModel" = some m.cls := findClass_of_methodNamed B.named
  have hlocks := B.notSynchronized
  have C0 : pu_C p s m _ meth c b_M_isInfinite_JI 3 "MotionLabModel" (some .boolean) (gw y_M_isInfinite_JI b_M_isInfinite_JI 3 (some .boolean)) := ⟨hx, hb, hml, hown, hts, hr, hlocks⟩
  have hl := lv_entry ([.long x0, .int x2]) (n := 3) (Nat.le_of_ble_eq_true rfl)
  rw [lg_entry_eq]
  generalize (lg_sl ([.long x0, .int x2]) ++ List.replicate (3 - (lg_sl ([.long x0, .int x2])).length) Slot.unset).toArray = ls at hl ⊢
  have hl : lv_has ls 3 [(0, .long x0), (2, .int x2)] := hl
  refine lv_lload_n hx hb d_M_isInfinite_JI_0 rfl (lv_at hl 0 rfl) ?_
  refine lv_iload_n hx hb d_M_isInfinite_JI_1 rfl (lv_at hl 1 rfl) ?_
  refine pu_l (As := [.long x0, .int x2]) (rest := []) ⟨hx, hb, hml, hown, hts⟩ (c_M_size_JI l _ x0 x2) pu_pre (gw_call (k := 2) hts tw_501 tw_502 tw_4 tw_503 (by decide +kernel) rfl rfl ⟨Nat.le_of_ble_eq_true rfl, Nat.le_of_ble_eq_true rfl⟩) rfl hl.1 rfl (Nat.le_of_ble_eq_true rfl) ⟨Nat.zero_le _, Nat.zero_le _⟩ d_M_isInfinite_JI_2 ?_
  refine lv_iload_n hx hb d_M_isInfinite_JI_5 rfl (lv_at hl 1 rfl) ?_
  refine pu_l (As := [.int x2]) (rest := [.long (f_M_size_JI x0 x2)]) ⟨hx, hb, hml, hown, hts⟩ (c_M_infinite_I l _ x2) pu_pre (gw_call (k := 1) hts tw_507 tw_508 tw_4 tw_509 (by decide +kernel) rfl rfl ⟨Nat.le_of_ble_eq_true rfl, Nat.le_of_ble_eq_true rfl⟩) rfl hl.1 rfl (Nat.le_of_ble_eq_true rfl) ⟨Nat.zero_le _, Nat.zero_le _⟩ d_M_isInfinite_JI_6 ?_
  refine W.lcmp hx hb d_M_isInfinite_JI_9 ?_
  refine lv_if_ne (tgt := 17) hx hb d_M_isInfinite_JI_10 (by decide) (fun c1 => ?_) (fun c1 => ?_)
  · refine lv_iconst (v := 0) hx hb d_M_isInfinite_JI_17 (by decide) ?_
    exact pu_zret hx hb hr rfl hlocks d_M_isInfinite_JI_18 (by exact Eq.symm (if_neg c1))
  · refine lv_iconst (v := 1) hx hb d_M_isInfinite_JI_13 (by decide) ?_
    refine lv_goto (tgt := 18) hx hb d_M_isInfinite_JI_14 (by decide) ?_
    exact pu_zret hx hb hr rfl hlocks d_M_isInfinite_JI_18 (by exact Eq.symm (if_pos c1))
-- ===== MotionLabModel.minus(JI)Z
abbrev y_M_minus_JI : MethodName := ⟨"MotionLabModel", "minus", "(JI)Z"⟩
abbrev b_M_minus_JI : ByteArray := prog_6_method_2_code
theorem d_M_minus_JI_0 : decode b_M_minus_JI 0 = .ok (.lload_n 0, 1) := by decide +kernel
theorem d_M_minus_JI_1 : decode b_M_minus_JI 1 = .ok (.iload_n 2, 1) := by decide +kernel
theorem d_M_minus_JI_2 : decode b_M_minus_JI 2 = .ok (.invokestatic 1, 3) := by decide +kernel
theorem d_M_minus_JI_5 : decode b_M_minus_JI 5 = .ok (.iconst 1, 1) := by decide +kernel
theorem d_M_minus_JI_6 : decode b_M_minus_JI 6 = .ok (.isub, 1) := by decide +kernel
theorem d_M_minus_JI_7 : decode b_M_minus_JI 7 = .ok (.lushr, 1) := by decide +kernel
theorem d_M_minus_JI_8 : decode b_M_minus_JI 8 = .ok (.lconst 1, 1) := by decide +kernel
theorem d_M_minus_JI_9 : decode b_M_minus_JI 9 = .ok (.land, 1) := by decide +kernel
theorem d_M_minus_JI_10 : decode b_M_minus_JI 10 = .ok (.lconst 1, 1) := by decide +kernel
theorem d_M_minus_JI_11 : decode b_M_minus_JI 11 = .ok (.lcmp, 1) := by decide +kernel
theorem d_M_minus_JI_12 : decode b_M_minus_JI 12 = .ok (.ifCond .ne 7, 3) := by decide +kernel
theorem d_M_minus_JI_15 : decode b_M_minus_JI 15 = .ok (.iconst 1, 1) := by decide +kernel
theorem d_M_minus_JI_16 : decode b_M_minus_JI 16 = .ok (.goto 4, 3) := by decide +kernel
theorem d_M_minus_JI_19 : decode b_M_minus_JI 19 = .ok (.iconst 0, 1) := by decide +kernel
theorem d_M_minus_JI_20 : decode b_M_minus_JI 20 = .ok (.ireturn, 1) := by decide +kernel
def f_M_minus_JI (x0 : Int64) (x2 : Int32) : Int32 :=
  if (lg_cmp ((j_ushr x0 ((f_M_wide_I x2) - (1 : Int32))) &&& (1 : Int64)) (1 : Int64)) = 0 then
    (1 : Int32)
  else
    (0 : Int32)
set_option maxHeartbeats 4000000 in
set_option maxRecDepth 100000 in
theorem c_M_minus_JI (l : Launch) (h : Heap) (x0 : Int64) (x2 : Int32) : Met l y_M_minus_JI (gw y_M_minus_JI b_M_minus_JI 3 (some .boolean)) { frames := 1, cells := 0, slots := 0, locals := 20 } (pu_Pc [.long x0, .int x2] h) (pu_Mi (f_M_minus_JI x0 x2) h) 0 0 (fun _ => False) := by
  refine Met.ofW (cc := b_M_minus_JI) (maxL := 3) (ret := (some .boolean)) (by decide) rfl ?_
  intro p e s m args below meth c s₁ B hml hv
  obtain ⟨rfl, hh⟩ := hv
  subst hh
  have hx := B.exec
  have hb := B.bytes
  have hr := B.returns
  have hts := atoms_spec (ws := (gw y_M_minus_JI b_M_minus_JI 3 (some .boolean))) B.pre
  have hown : s.vm.findClass "MotionLabModel" = some m.cls := findClass_of_methodNamed B.named
  have hlocks := B.notSynchronized
  have C0 : pu_C p s m _ meth c b_M_minus_JI 3 "MotionLabModel" (some .boolean) (gw y_M_minus_JI b_M_minus_JI 3 (some .boolean)) := ⟨hx, hb, hml, hown, hts, hr, hlocks⟩
  have hl := lv_entry ([.long x0, .int x2]) (n := 3) (Nat.le_of_ble_eq_true rfl)
  rw [lg_entry_eq]
  generalize (lg_sl ([.long x0, .int x2]) ++ List.replicate (3 - (lg_sl ([.long x0, .int x2])).length) Slot.unset).toArray = ls at hl ⊢
  have hl : lv_has ls 3 [(0, .long x0), (2, .int x2)] := hl
  refine lv_lload_n hx hb d_M_minus_JI_0 rfl (lv_at hl 0 rfl) ?_
  refine lv_iload_n hx hb d_M_minus_JI_1 rfl (lv_at hl 1 rfl) ?_
  refine pu_i (As := [.int x2]) (rest := [.long x0]) ⟨hx, hb, hml, hown, hts⟩ (c_M_wide_I l _ x2) pu_pre (gw_call (k := 1) hts tw_504 tw_505 tw_4 tw_506 (by decide +kernel) rfl rfl ⟨Nat.le_of_ble_eq_true rfl, Nat.le_of_ble_eq_true rfl⟩) rfl hl.1 rfl (Nat.le_of_ble_eq_true rfl) ⟨Nat.zero_le _, Nat.zero_le _⟩ d_M_minus_JI_2 ?_
  refine lv_iconst (v := 1) hx hb d_M_minus_JI_5 (by decide) ?_
  refine lv_isub hx hb d_M_minus_JI_6 ?_
  refine lv_lushr (v := j_ushr x0 ((f_M_wide_I x2) - (1 : Int32))) hx hb d_M_minus_JI_7 rfl ?_
  refine lv_lconst (v := (1 : Int64)) hx hb d_M_minus_JI_8 (by decide) ?_
  refine lv_land hx hb d_M_minus_JI_9 ?_
  refine lv_lconst (v := (1 : Int64)) hx hb d_M_minus_JI_10 (by decide) ?_
  refine W.lcmp hx hb d_M_minus_JI_11 ?_
  refine lv_if_ne (tgt := 19) hx hb d_M_minus_JI_12 (by decide) (fun c1 => ?_) (fun c1 => ?_)
  · refine lv_iconst (v := 0) hx hb d_M_minus_JI_19 (by decide) ?_
    exact pu_zret hx hb hr rfl hlocks d_M_minus_JI_20 (by exact Eq.symm (if_neg c1))
  · refine lv_iconst (v := 1) hx hb d_M_minus_JI_15 (by decide) ?_
    refine lv_goto (tgt := 20) hx hb d_M_minus_JI_16 (by decide) ?_
    exact pu_zret hx hb hr rfl hlocks d_M_minus_JI_20 (by exact Eq.symm (if_pos c1))
-- ===== MotionLabModel.signed(JZI)J
abbrev y_M_signed_JZI : MethodName := ⟨"MotionLabModel", "signed", "(JZI)J"⟩
abbrev b_M_signed_JZI : ByteArray := prog_6_method_9_code
theorem d_M_signed_JZI_0 : decode b_M_signed_JZI 0 = .ok (.iload_n 2, 1) := by decide +kernel
theorem d_M_signed_JZI_1 : decode b_M_signed_JZI 1 = .ok (.ifCond .eq 16, 3) := by decide +kernel
theorem d_M_signed_JZI_4 : decode b_M_signed_JZI 4 = .ok (.lload_n 0, 1) := by decide +kernel
theorem d_M_signed_JZI_5 : decode b_M_signed_JZI 5 = .ok (.lconst 1, 1) := by decide +kernel
theorem d_M_signed_JZI_6 : decode b_M_signed_JZI 6 = .ok (.iload_n 3, 1) := by decide +kernel
theorem d_M_signed_JZI_7 : decode b_M_signed_JZI 7 = .ok (.invokestatic 1, 3) := by decide +kernel
theorem d_M_signed_JZI_10 : decode b_M_signed_JZI 10 = .ok (.iconst 1, 1) := by decide +kernel
theorem d_M_signed_JZI_11 : decode b_M_signed_JZI 11 = .ok (.isub, 1) := by decide +kernel
theorem d_M_signed_JZI_12 : decode b_M_signed_JZI 12 = .ok (.lshl, 1) := by decide +kernel
theorem d_M_signed_JZI_13 : decode b_M_signed_JZI 13 = .ok (.lor, 1) := by decide +kernel
theorem d_M_signed_JZI_14 : decode b_M_signed_JZI 14 = .ok (.goto 4, 3) := by decide +kernel
theorem d_M_signed_JZI_17 : decode b_M_signed_JZI 17 = .ok (.lload_n 0, 1) := by decide +kernel
theorem d_M_signed_JZI_18 : decode b_M_signed_JZI 18 = .ok (.lreturn, 1) := by decide +kernel
def f_M_signed_JZI (x0 : Int64) (x2 : Int32) (x3 : Int32) : Int64 :=
  if x2 = 0 then
    x0
  else
    x0 ||| (j_shl (1 : Int64) ((f_M_wide_I x3) - (1 : Int32)))
set_option maxHeartbeats 4000000 in
set_option maxRecDepth 100000 in
theorem c_M_signed_JZI (l : Launch) (h : Heap) (x0 : Int64) (x2 : Int32) (x3 : Int32) : Met l y_M_signed_JZI (gw y_M_signed_JZI b_M_signed_JZI 4 (some .long)) { frames := 1, cells := 0, slots := 0, locals := 20 } (pu_Pc [.long x0, .int x2, .int x3] h) (pu_Ml (f_M_signed_JZI x0 x2 x3) h) 0 0 (fun _ => False) := by
  refine Met.ofW (cc := b_M_signed_JZI) (maxL := 4) (ret := (some .long)) (by decide) rfl ?_
  intro p e s m args below meth c s₁ B hml hv
  obtain ⟨rfl, hh⟩ := hv
  subst hh
  have hx := B.exec
  have hb := B.bytes
  have hr := B.returns
  have hts := atoms_spec (ws := (gw y_M_signed_JZI b_M_signed_JZI 4 (some .long))) B.pre
  have hown : s.vm.findClass "MotionLabModel" = some m.cls := findClass_of_methodNamed B.named
  have hlocks := B.notSynchronized
  have C0 : pu_C p s m _ meth c b_M_signed_JZI 4 "MotionLabModel" (some .long) (gw y_M_signed_JZI b_M_signed_JZI 4 (some .long)) := ⟨hx, hb, hml, hown, hts, hr, hlocks⟩
  have hl := lv_entry ([.long x0, .int x2, .int x3]) (n := 4) (Nat.le_of_ble_eq_true rfl)
  rw [lg_entry_eq]
  generalize (lg_sl ([.long x0, .int x2, .int x3]) ++ List.replicate (4 - (lg_sl ([.long x0, .int x2, .int x3])).length) Slot.unset).toArray = ls at hl ⊢
  have hl : lv_has ls 4 [(0, .long x0), (2, .int x2), (3, .int x3)] := hl
  refine lv_iload_n hx hb d_M_signed_JZI_0 rfl (lv_at hl 1 rfl) ?_
  refine lv_if_eq (tgt := 17) hx hb d_M_signed_JZI_1 (by decide) (fun c1 => ?_) (fun c1 => ?_)
  · refine lv_lload_n hx hb d_M_signed_JZI_17 rfl (lv_at hl 0 rfl) ?_
    exact pu_lret hx hb hr hlocks d_M_signed_JZI_18 (by exact Eq.symm (if_pos c1))
  · refine lv_lload_n hx hb d_M_signed_JZI_4 rfl (lv_at hl 0 rfl) ?_
    refine lv_lconst (v := (1 : Int64)) hx hb d_M_signed_JZI_5 (by decide) ?_
    refine lv_iload_n hx hb d_M_signed_JZI_6 rfl (lv_at hl 2 rfl) ?_
    refine pu_i (As := [.int x3]) (rest := [.long (1 : Int64), .long x0]) ⟨hx, hb, hml, hown, hts⟩ (c_M_wide_I l _ x3) pu_pre (gw_call (k := 1) hts tw_504 tw_505 tw_4 tw_506 (by decide +kernel) rfl rfl ⟨Nat.le_of_ble_eq_true rfl, Nat.le_of_ble_eq_true rfl⟩) rfl hl.1 rfl (Nat.le_of_ble_eq_true rfl) ⟨Nat.zero_le _, Nat.zero_le _⟩ d_M_signed_JZI_7 ?_
    refine lv_iconst (v := 1) hx hb d_M_signed_JZI_10 (by decide) ?_
    refine lv_isub hx hb d_M_signed_JZI_11 ?_
    refine lv_lshl (v := j_shl (1 : Int64) ((f_M_wide_I x3) - (1 : Int32))) hx hb d_M_signed_JZI_12 rfl ?_
    refine lv_lor hx hb d_M_signed_JZI_13 ?_
    refine lv_goto (tgt := 18) hx hb d_M_signed_JZI_14 (by decide) ?_
    exact pu_lret hx hb hr hlocks d_M_signed_JZI_18 (by exact Eq.symm (if_neg c1))
-- ===== MotionLabModel.whole(JI)J
abbrev y_M_whole_JI : MethodName := ⟨"MotionLabModel", "whole", "(JI)J"⟩
abbrev b_M_whole_JI : ByteArray := prog_6_method_11_code
theorem d_M_whole_JI_0 : decode b_M_whole_JI 0 = .ok (.getstatic 23, 3) := by decide +kernel
theorem d_M_whole_JI_3 : decode b_M_whole_JI 3 = .ok (.iload_n 2, 1) := by decide +kernel
theorem d_M_whole_JI_4 : decode b_M_whole_JI 4 = .ok (.iaload, 1) := by decide +kernel
theorem d_M_whole_JI_5 : decode b_M_whole_JI 5 = .ok (.iconst 1, 1) := by decide +kernel
theorem d_M_whole_JI_6 : decode b_M_whole_JI 6 = .ok (.isub, 1) := by decide +kernel
theorem d_M_whole_JI_7 : decode b_M_whole_JI 7 = .ok (.istore_n 3, 1) := by decide +kernel
theorem d_M_whole_JI_8 : decode b_M_whole_JI 8 = .ok (.lload_n 0, 1) := by decide +kernel
theorem d_M_whole_JI_9 : decode b_M_whole_JI 9 = .ok (.iload_n 2, 1) := by decide +kernel
theorem d_M_whole_JI_10 : decode b_M_whole_JI 10 = .ok (.invokestatic 15, 3) := by decide +kernel
theorem d_M_whole_JI_13 : decode b_M_whole_JI 13 = .ok (.lstore 4, 2) := by decide +kernel
theorem d_M_whole_JI_15 : decode b_M_whole_JI 15 = .ok (.lload 4, 2) := by decide +kernel
theorem d_M_whole_JI_17 : decode b_M_whole_JI 17 = .ok (.lconst 1, 1) := by decide +kernel
theorem d_M_whole_JI_18 : decode b_M_whole_JI 18 = .ok (.iload_n 3, 1) := by decide +kernel
theorem d_M_whole_JI_19 : decode b_M_whole_JI 19 = .ok (.lshl, 1) := by decide +kernel
theorem d_M_whole_JI_20 : decode b_M_whole_JI 20 = .ok (.lconst 1, 1) := by decide +kernel
theorem d_M_whole_JI_21 : decode b_M_whole_JI 21 = .ok (.lsub, 1) := by decide +kernel
theorem d_M_whole_JI_22 : decode b_M_whole_JI 22 = .ok (.land, 1) := by decide +kernel
theorem d_M_whole_JI_23 : decode b_M_whole_JI 23 = .ok (.lstore 6, 2) := by decide +kernel
theorem d_M_whole_JI_25 : decode b_M_whole_JI 25 = .ok (.lload 4, 2) := by decide +kernel
theorem d_M_whole_JI_27 : decode b_M_whole_JI 27 = .ok (.iload_n 3, 1) := by decide +kernel
theorem d_M_whole_JI_28 : decode b_M_whole_JI 28 = .ok (.lushr, 1) := by decide +kernel
theorem d_M_whole_JI_29 : decode b_M_whole_JI 29 = .ok (.lconst 0, 1) := by decide +kernel
theorem d_M_whole_JI_30 : decode b_M_whole_JI 30 = .ok (.lcmp, 1) := by decide +kernel
theorem d_M_whole_JI_31 : decode b_M_whole_JI 31 = .ok (.ifCond .ne 8, 3) := by decide +kernel
theorem d_M_whole_JI_34 : decode b_M_whole_JI 34 = .ok (.lload 6, 2) := by decide +kernel
theorem d_M_whole_JI_36 : decode b_M_whole_JI 36 = .ok (.goto 9, 3) := by decide +kernel
theorem d_M_whole_JI_39 : decode b_M_whole_JI 39 = .ok (.lload 6, 2) := by decide +kernel
theorem d_M_whole_JI_41 : decode b_M_whole_JI 41 = .ok (.lconst 1, 1) := by decide +kernel
theorem d_M_whole_JI_42 : decode b_M_whole_JI 42 = .ok (.iload_n 3, 1) := by decide +kernel
theorem d_M_whole_JI_43 : decode b_M_whole_JI 43 = .ok (.lshl, 1) := by decide +kernel
theorem d_M_whole_JI_44 : decode b_M_whole_JI 44 = .ok (.lor, 1) := by decide +kernel
theorem d_M_whole_JI_45 : decode b_M_whole_JI 45 = .ok (.lreturn, 1) := by decide +kernel
def f_M_whole_JI (x0 : Int64) (x2 : Int32) : Int64 :=
  let v1 : Int32 := (tP_at x2) - (1 : Int32)
  let v2 : Int64 := f_M_size_JI x0 x2
  let v3 : Int64 := v2 &&& ((j_shl (1 : Int64) v1) - (1 : Int64))
  if (lg_cmp (j_ushr v2 v1) (0 : Int64)) = 0 then
    v3
  else
    v3 ||| (j_shl (1 : Int64) v1)
set_option maxHeartbeats 4000000 in
set_option maxRecDepth 100000 in
theorem c_M_whole_JI (l : Launch) (h : Heap) (t0 t1 t2 : Nat) (x0 : Int64) (x2 : Int32) (hk_x2 : vp_in x2 2) : Met l y_M_whole_JI (gw y_M_whole_JI b_M_whole_JI 8 (some .long)) { frames := 2, cells := 0, slots := 0, locals := 42 } (pr_Pc [.long x0, .int x2] h t0 t1 t2) (pu_Ml (f_M_whole_JI x0 x2) h) 0 0 (fun _ => False) := by
  refine Met.ofW (cc := b_M_whole_JI) (maxL := 8) (ret := (some .long)) (by decide) rfl ?_
  intro p e s m args below meth c s₁ B hml hv
  obtain ⟨rfl, hh, hRT⟩ := hv
  subst hh
  obtain ⟨hT0, hT1, hT2⟩ := id hRT
  have hx := B.exec
  have hb := B.bytes
  have hr := B.returns
  have hts := atoms_spec (ws := (gw y_M_whole_JI b_M_whole_JI 8 (some .long))) B.pre
  have hown : s.vm.findClass "MotionLabModel" = some m.cls := findClass_of_methodNamed B.named
  have hlocks := B.notSynchronized
  have C0 : pu_C p s m _ meth c b_M_whole_JI 8 "MotionLabModel" (some .long) (gw y_M_whole_JI b_M_whole_JI 8 (some .long)) := ⟨hx, hb, hml, hown, hts, hr, hlocks⟩
  have hl := lv_entry ([.long x0, .int x2]) (n := 8) (Nat.le_of_ble_eq_true rfl)
  rw [lg_entry_eq]
  generalize (lg_sl ([.long x0, .int x2]) ++ List.replicate (8 - (lg_sl ([.long x0, .int x2])).length) Slot.unset).toArray = ls at hl ⊢
  have hl : lv_has ls 8 [(0, .long x0), (2, .int x2)] := hl
  refine va_gets hx hb hT0.1 va_S.rf hown (hts _ (gm tw_528)) (fun _ h9 => h9) d_M_whole_JI_0 ?_
  refine lv_iload_n hx hb d_M_whole_JI_3 rfl (lv_at hl 1 rfl) ?_
  refine va_ti hx hb hT0.2 va_S.rf hk_x2 (v := .int (tP_at x2)) rfl d_M_whole_JI_4 ?_
  refine lv_iconst (v := 1) hx hb d_M_whole_JI_5 (by decide) ?_
  refine lv_isub hx hb d_M_whole_JI_6 ?_
  refine lv_topi (fun v1 e1 => ?_)
  refine lv_istore_n (lv' := [(3, .int v1), (0, .long x0), (2, .int x2)]) hx hb d_M_whole_JI_7 rfl hl (by decide) rfl (fun ls hl => ?_)
  refine lv_lload_n hx hb d_M_whole_JI_8 rfl (lv_at hl 1 rfl) ?_
  refine lv_iload_n hx hb d_M_whole_JI_9 rfl (lv_at hl 2 rfl) ?_
  refine pu_l (As := [.long x0, .int x2]) (rest := []) ⟨hx, hb, hml, hown, hts⟩ (c_M_size_JI l _ x0 x2) pu_pre (gw_call (k := 2) hts tw_501 tw_502 tw_4 tw_503 (by decide +kernel) rfl rfl ⟨Nat.le_of_ble_eq_true rfl, Nat.le_of_ble_eq_true rfl⟩) rfl hl.1 rfl (Nat.le_of_ble_eq_true rfl) ⟨Nat.zero_le _, Nat.zero_le _⟩ d_M_whole_JI_10 ?_
  refine lv_topl (fun v2 e2 => ?_)
  refine lv_lstore (lv' := [(4, .long v2), (3, .int v1), (0, .long x0), (2, .int x2)]) hx hb d_M_whole_JI_13 hl (by decide) rfl (fun ls hl => ?_)
  refine lv_lload hx hb d_M_whole_JI_15 (lv_at hl 0 rfl) ?_
  refine lv_lconst (v := (1 : Int64)) hx hb d_M_whole_JI_17 (by decide) ?_
  refine lv_iload_n hx hb d_M_whole_JI_18 rfl (lv_at hl 1 rfl) ?_
  refine lv_lshl (v := j_shl (1 : Int64) v1) hx hb d_M_whole_JI_19 rfl ?_
  refine lv_lconst (v := (1 : Int64)) hx hb d_M_whole_JI_20 (by decide) ?_
  refine lv_lsub hx hb d_M_whole_JI_21 ?_
  refine lv_land hx hb d_M_whole_JI_22 ?_
  refine lv_topl (fun v3 e3 => ?_)
  refine lv_lstore (lv' := [(6, .long v3), (4, .long v2), (3, .int v1), (0, .long x0), (2, .int x2)]) hx hb d_M_whole_JI_23 hl (by decide) rfl (fun ls hl => ?_)
  refine lv_lload hx hb d_M_whole_JI_25 (lv_at hl 1 rfl) ?_
  refine lv_iload_n hx hb d_M_whole_JI_27 rfl (lv_at hl 2 rfl) ?_
  refine lv_lushr (v := j_ushr v2 v1) hx hb d_M_whole_JI_28 rfl ?_
  refine lv_lconst (v := (0 : Int64)) hx hb d_M_whole_JI_29 (by decide) ?_
  refine W.lcmp hx hb d_M_whole_JI_30 ?_
  refine lv_if_ne (tgt := 39) hx hb d_M_whole_JI_31 (by decide) (fun c4 => ?_) (fun c4 => ?_)
  · refine lv_lload hx hb d_M_whole_JI_39 (lv_at hl 0 rfl) ?_
    refine lv_lconst (v := (1 : Int64)) hx hb d_M_whole_JI_41 (by decide) ?_
    refine lv_iload_n hx hb d_M_whole_JI_42 rfl (lv_at hl 2 rfl) ?_
    refine lv_lshl (v := j_shl (1 : Int64) v1) hx hb d_M_whole_JI_43 rfl ?_
    refine lv_lor hx hb d_M_whole_JI_44 ?_
    exact pu_lret hx hb hr hlocks d_M_whole_JI_45 (by have qe1 := e1.symm; have qe2 := e2.symm; have qe3 := e3.symm; subst qe1 qe2 qe3; exact Eq.symm (if_neg c4))
  · refine lv_lload hx hb d_M_whole_JI_34 (lv_at hl 0 rfl) ?_
    refine lv_goto (tgt := 45) hx hb d_M_whole_JI_36 (by decide) ?_
    exact pu_lret hx hb hr hlocks d_M_whole_JI_45 (by have qe1 := e1.symm; have qe2 := e2.symm; have qe3 := e3.symm; subst qe1 qe2 qe3; exact Eq.symm (if_pos c4))
