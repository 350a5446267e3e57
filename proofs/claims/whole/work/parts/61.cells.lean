-- ===== MotionLab$Plane.setBodyNumber(IIJ)V 
abbrev y_P_setBodyNumber_IIJ : MethodName := ⟨"MotionLab$Plane", "setBodyNumber", "(IIJ)V"⟩
abbrev b_P_setBodyNumber_IIJ : ByteArray := prog_3_method_5_code
theorem d_P_setBodyNumber_IIJ_0 : decode b_P_setBodyNumber_IIJ 0 = .ok (.iload_n 2, 1) := by decide +kernel
theorem d_P_setBodyNumber_IIJ_1 : decode b_P_setBodyNumber_IIJ 1 = .ok (.bipush 8, 2) := by decide +kernel
theorem d_P_setBodyNumber_IIJ_3 : decode b_P_setBodyNumber_IIJ 3 = .ok (.imul, 1) := by decide +kernel
theorem d_P_setBodyNumber_IIJ_4 : decode b_P_setBodyNumber_IIJ 4 = .ok (.istore 5, 2) := by decide +kernel
theorem d_P_setBodyNumber_IIJ_6 : decode b_P_setBodyNumber_IIJ 6 = .ok (.iload 5, 2) := by decide +kernel
theorem d_P_setBodyNumber_IIJ_8 : decode b_P_setBodyNumber_IIJ 8 = .ok (.bipush 32, 2) := by decide +kernel
theorem d_P_setBodyNumber_IIJ_10 : decode b_P_setBodyNumber_IIJ 10 = .ok (.if_icmp .eq 10, 3) := by decide +kernel
theorem d_P_setBodyNumber_IIJ_13 : decode b_P_setBodyNumber_IIJ 13 = .ok (.iload 5, 2) := by decide +kernel
theorem d_P_setBodyNumber_IIJ_15 : decode b_P_setBodyNumber_IIJ 15 = .ok (.bipush 40, 2) := by decide +kernel
theorem d_P_setBodyNumber_IIJ_17 : decode b_P_setBodyNumber_IIJ 17 = .ok (.if_icmp .ne 7, 3) := by decide +kernel
theorem d_P_setBodyNumber_IIJ_20 : decode b_P_setBodyNumber_IIJ 20 = .ok (.iconst 1, 1) := by decide +kernel
theorem d_P_setBodyNumber_IIJ_21 : decode b_P_setBodyNumber_IIJ 21 = .ok (.goto 4, 3) := by decide +kernel
theorem d_P_setBodyNumber_IIJ_24 : decode b_P_setBodyNumber_IIJ 24 = .ok (.iconst 0, 1) := by decide +kernel
theorem d_P_setBodyNumber_IIJ_25 : decode b_P_setBodyNumber_IIJ 25 = .ok (.istore 6, 2) := by decide +kernel
theorem d_P_setBodyNumber_IIJ_27 : decode b_P_setBodyNumber_IIJ 27 = .ok (.aload_n 0, 1) := by decide +kernel
theorem d_P_setBodyNumber_IIJ_28 : decode b_P_setBodyNumber_IIJ 28 = .ok (.getfield 9, 3) := by decide +kernel
theorem d_P_setBodyNumber_IIJ_31 : decode b_P_setBodyNumber_IIJ 31 = .ok (.iload 5, 2) := by decide +kernel
theorem d_P_setBodyNumber_IIJ_33 : decode b_P_setBodyNumber_IIJ 33 = .ok (.iload_n 1, 1) := by decide +kernel
theorem d_P_setBodyNumber_IIJ_34 : decode b_P_setBodyNumber_IIJ 34 = .ok (.iadd, 1) := by decide +kernel
theorem d_P_setBodyNumber_IIJ_35 : decode b_P_setBodyNumber_IIJ 35 = .ok (.iload 6, 2) := by decide +kernel
theorem d_P_setBodyNumber_IIJ_37 : decode b_P_setBodyNumber_IIJ 37 = .ok (.ifCond .eq 10, 3) := by decide +kernel
theorem d_P_setBodyNumber_IIJ_40 : decode b_P_setBodyNumber_IIJ 40 = .ok (.lload_n 3, 1) := by decide +kernel
theorem d_P_setBodyNumber_IIJ_41 : decode b_P_setBodyNumber_IIJ 41 = .ok (.invokestatic 31, 3) := by decide +kernel
theorem d_P_setBodyNumber_IIJ_44 : decode b_P_setBodyNumber_IIJ 44 = .ok (.goto 7, 3) := by decide +kernel
theorem d_P_setBodyNumber_IIJ_47 : decode b_P_setBodyNumber_IIJ 47 = .ok (.lload_n 3, 1) := by decide +kernel
theorem d_P_setBodyNumber_IIJ_48 : decode b_P_setBodyNumber_IIJ 48 = .ok (.invokestatic 35, 3) := by decide +kernel
theorem d_P_setBodyNumber_IIJ_51 : decode b_P_setBodyNumber_IIJ 51 = .ok (.lastore, 1) := by decide +kernel
theorem d_P_setBodyNumber_IIJ_52 : decode b_P_setBodyNumber_IIJ 52 = .ok (.return_, 1) := by decide +kernel
def f_P_setBodyNumber_IIJ (S : CS) (x1 : Int32) (x2 : Int32) (x3 : Int64) : CS :=
  let v1 : Int32 := x2 * (8 : Int32)
  if v1 = (32 : Int32) then
    let S3 : CS := u_sR S (vp_updL (sR S) (v1 + x1).toNatClampNeg (f_I_toFloat_J x3))
    S3
  else
    if v1 = (40 : Int32) then
      let S6 : CS := u_sR S (vp_updL (sR S) (v1 + x1).toNatClampNeg (f_I_toFloat_J x3))
      S6
    else
      let S5 : CS := u_sR S (vp_updL (sR S) (v1 + x1).toNatClampNeg (f_I_told_J x3))
      S5
set_option maxHeartbeats 4000000 in
set_option maxRecDepth 100000 in
theorem c_P_setBodyNumber_IIJ (l : Launch) (dC : Nat → ClassId) (dI : Nat → Nat → Nat) (ad : Nat → Nat) (cJ cI : ClassId) (S : CS) (x1 : Int32) (x2 : Int32) (x3 : Int64) (hk_x1 : vp_in x1 8) (hk_x2 : vp_in x2 6) (sz : Nat) : hMv l y_P_setBodyNumber_IIJ (gw y_P_setBodyNumber_IIJ b_P_setBodyNumber_IIJ 7 none) { frames := 5, cells := 0, slots := 0, locals := 117 } [.ref (ad 1), .int x1, .int x2, .long x3] (dC, dI) classes (tysJI cJ cI) (fun _ => True) (cW ad cJ cI S) sz (cW ad cJ cI (f_P_setBodyNumber_IIJ S x1 x2 x3)) := by
  refine Met.ofW (cc := b_P_setBodyNumber_IIJ) (maxL := 7) (ret := none) (by decide) rfl ?_
  intro p e s m args below meth c s₁ B hml hv
  obtain ⟨rfl, hsz, hP, hK, hD0, hRT⟩ := hv
  have hx := B.exec
  have hb := B.bytes
  have hr := B.returns
  have hts := atoms_spec (ws := (gw y_P_setBodyNumber_IIJ b_P_setBodyNumber_IIJ 7 none)) B.pre
  have hown : s.vm.findClass "MotionLab$Plane" = some m.cls := findClass_of_methodNamed B.named
  have hlocks := B.notSynchronized
  subst hsz
  have hD := hD0.self (sz := s.heap.size)
  generalize hAe : va_A (cW ad cJ cI S) s.heap.size = A at hD
  have hA : ∀ q : Nat, s.heap.size ≤ q → A q := fun q h => by rw [← hAe]; exact Or.inr h
  have G : hG (dC, dI) classes A s.heap (cW ad cJ cI S) s.heap [] := ⟨hP, hD, va_S.rf⟩
  have hl := lv_entry ([.ref (ad 1), .int x1, .int x2, .long x3]) (n := 7) (Nat.le_of_ble_eq_true rfl)
  rw [lg_entry_eq]
  generalize (lg_sl ([.ref (ad 1), .int x1, .int x2, .long x3]) ++ List.replicate (7 - (lg_sl ([.ref (ad 1), .int x1, .int x2, .long x3])).length) Slot.unset).toArray = ls at hl ⊢
  have hl : lv_has ls 7 [(0, .ref (ad 1)), (1, .int x1), (2, .int x2), (3, .long x3)] := hl
  refine lv_iload_n hx hb d_P_setBodyNumber_IIJ_0 rfl (lv_at hl 2 rfl) ?_
  refine lv_bipush (v := (8 : Int32)) hx hb d_P_setBodyNumber_IIJ_1 (by decide) ?_
  refine lv_imul hx hb d_P_setBodyNumber_IIJ_3 ?_
  refine lv_topi (fun v1 e1 => ?_)
  refine lv_istore (lv' := [(5, .int v1), (0, .ref (ad 1)), (1, .int x1), (2, .int x2), (3, .long x3)]) hx hb d_P_setBodyNumber_IIJ_4 hl (by decide) rfl (fun ls hl => ?_)
  refine lv_iload hx hb d_P_setBodyNumber_IIJ_6 (lv_at hl 0 rfl) ?_
  refine lv_bipush (v := (32 : Int32)) hx hb d_P_setBodyNumber_IIJ_8 (by decide) ?_
  refine lv_icmp_eq (tgt := 20) hx hb d_P_setBodyNumber_IIJ_10 (by decide) (fun c2 => ?_) (fun c2 => ?_)
  · refine lv_iconst (v := 1) hx hb d_P_setBodyNumber_IIJ_20 (by decide) ?_
    refine lv_goto (tgt := 25) hx hb d_P_setBodyNumber_IIJ_21 (by decide) ?_
    refine lv_istore (lv' := [(6, .int (1 : Int32)), (5, .int v1), (0, .ref (ad 1)), (1, .int x1), (2, .int x2), (3, .long x3)]) hx hb d_P_setBodyNumber_IIJ_25 hl (by decide) rfl (fun ls hl => ?_)
    refine lv_aload_n hx hb d_P_setBodyNumber_IIJ_27 rfl (lv_at hl 2 rfl) ?_
    refine va_get (D := (dC, dI)) (ci := 1) (v := .ref (ad 3)) (C := R_P) (T := F_P) (N := 3) hx hb hts (fun w h => gm (i_P w h)) hown hK G.1 1 rfl rfl 0 (by decide) (hts _ (gm tw_46)) (fun _ h9 => h9) rfl d_P_setBodyNumber_IIJ_28 ?_
    refine lv_iload hx hb d_P_setBodyNumber_IIJ_31 (lv_at hl 1 rfl) ?_
    refine lv_iload_n hx hb d_P_setBodyNumber_IIJ_33 rfl (lv_at hl 3 rfl) ?_
    refine lv_iadd hx hb d_P_setBodyNumber_IIJ_34 ?_
    refine lv_iload hx hb d_P_setBodyNumber_IIJ_35 (lv_at hl 0 rfl) ?_
    refine lv_if_eq (tgt := 47) hx hb d_P_setBodyNumber_IIJ_37 (by decide) (fun c0 => absurd c0 (by decide)) (fun _ => ?_)
    refine lv_lload_n hx hb d_P_setBodyNumber_IIJ_40 rfl (lv_at hl 5 rfl) ?_
    refine pu_l (As := [.long x3]) (rest := [.int (v1 + x1), .ref (ad 3)]) ⟨hx, hb, hml, hown, hts⟩ (c_I_toFloat_J l _ x3) pu_pre (gw_call (k := 1) hts tw_78 tw_79 tw_5 tw_80 (by decide +kernel) rfl rfl ⟨Nat.le_of_ble_eq_true rfl, Nat.le_of_ble_eq_true rfl⟩) rfl hl.1 rfl (Nat.le_of_ble_eq_true rfl) ⟨Nat.zero_le _, Nat.zero_le _⟩ d_P_setBodyNumber_IIJ_41 ?_
    refine lv_goto (tgt := 51) hx hb d_P_setBodyNumber_IIJ_44 (by decide) ?_
    obtain ⟨S3, e3⟩ : ∃ z : CS, z = u_sR S (vp_updL (sR S) (v1 + x1).toNatClampNeg (f_I_toFloat_J x3)) := ⟨_, rfl⟩
    refine hg_last hx hb hK G 3 0 rfl rfl (by rw [e1]; exact in_rb hk_x2 hk_x1) d_P_setBodyNumber_IIJ_51 (cW ad cJ cI S3) (by rw [e3]; rfl) (fun H locs G => ?_)
    exact hg_vret hx hb hr hlocks hK hAe G (by have qe1 := e1.symm; have qe3 := e3.symm; subst qe1 qe3; have e9 : f_P_setBodyNumber_IIJ S x1 x2 x3 = _ := (if_pos c2); exact Eq.symm (congrArg (cW ad cJ cI) e9)) d_P_setBodyNumber_IIJ_52
  · refine lv_iload hx hb d_P_setBodyNumber_IIJ_13 (lv_at hl 0 rfl) ?_
    refine lv_bipush (v := (40 : Int32)) hx hb d_P_setBodyNumber_IIJ_15 (by decide) ?_
    refine lv_icmp_ne (tgt := 24) hx hb d_P_setBodyNumber_IIJ_17 (by decide) (fun c4 => ?_) (fun c4 => ?_)
    · refine lv_iconst (v := 0) hx hb d_P_setBodyNumber_IIJ_24 (by decide) ?_
      refine lv_istore (lv' := [(6, .int (0 : Int32)), (5, .int v1), (0, .ref (ad 1)), (1, .int x1), (2, .int x2), (3, .long x3)]) hx hb d_P_setBodyNumber_IIJ_25 hl (by decide) rfl (fun ls hl => ?_)
      refine lv_aload_n hx hb d_P_setBodyNumber_IIJ_27 rfl (lv_at hl 2 rfl) ?_
      refine va_get (D := (dC, dI)) (ci := 1) (v := .ref (ad 3)) (C := R_P) (T := F_P) (N := 3) hx hb hts (fun w h => gm (i_P w h)) hown hK G.1 1 rfl rfl 0 (by decide) (hts _ (gm tw_46)) (fun _ h9 => h9) rfl d_P_setBodyNumber_IIJ_28 ?_
      refine lv_iload hx hb d_P_setBodyNumber_IIJ_31 (lv_at hl 1 rfl) ?_
      refine lv_iload_n hx hb d_P_setBodyNumber_IIJ_33 rfl (lv_at hl 3 rfl) ?_
      refine lv_iadd hx hb d_P_setBodyNumber_IIJ_34 ?_
      refine lv_iload hx hb d_P_setBodyNumber_IIJ_35 (lv_at hl 0 rfl) ?_
      refine lv_if_eq (tgt := 47) hx hb d_P_setBodyNumber_IIJ_37 (by decide) (fun _ => ?_) (fun c0 => absurd c0 (by decide))
      refine lv_lload_n hx hb d_P_setBodyNumber_IIJ_47 rfl (lv_at hl 5 rfl) ?_
      refine pu_l (As := [.long x3]) (rest := [.int (v1 + x1), .ref (ad 3)]) ⟨hx, hb, hml, hown, hts⟩ (c_I_told_J l _ x3) pu_pre (gw_call (k := 1) hts tw_122 tw_87 tw_5 tw_88 (by decide +kernel) rfl rfl ⟨Nat.le_of_ble_eq_true rfl, Nat.le_of_ble_eq_true rfl⟩) rfl hl.1 rfl (Nat.le_of_ble_eq_true rfl) ⟨Nat.zero_le _, Nat.zero_le _⟩ d_P_setBodyNumber_IIJ_48 ?_
      obtain ⟨S5, e5⟩ : ∃ z : CS, z = u_sR S (vp_updL (sR S) (v1 + x1).toNatClampNeg (f_I_told_J x3)) := ⟨_, rfl⟩
      refine hg_last hx hb hK G 3 0 rfl rfl (by rw [e1]; exact in_rb hk_x2 hk_x1) d_P_setBodyNumber_IIJ_51 (cW ad cJ cI S5) (by rw [e5]; rfl) (fun H locs G => ?_)
      exact hg_vret hx hb hr hlocks hK hAe G (by have qe1 := e1.symm; have qe5 := e5.symm; subst qe1 qe5; have e9 : f_P_setBodyNumber_IIJ S x1 x2 x3 = _ := (Eq.trans (if_neg c2) (if_neg c4)); exact Eq.symm (congrArg (cW ad cJ cI) e9)) d_P_setBodyNumber_IIJ_52
    · refine lv_iconst (v := 1) hx hb d_P_setBodyNumber_IIJ_20 (by decide) ?_
      refine lv_goto (tgt := 25) hx hb d_P_setBodyNumber_IIJ_21 (by decide) ?_
      refine lv_istore (lv' := [(6, .int (1 : Int32)), (5, .int v1), (0, .ref (ad 1)), (1, .int x1), (2, .int x2), (3, .long x3)]) hx hb d_P_setBodyNumber_IIJ_25 hl (by decide) rfl (fun ls hl => ?_)
      refine lv_aload_n hx hb d_P_setBodyNumber_IIJ_27 rfl (lv_at hl 2 rfl) ?_
      refine va_get (D := (dC, dI)) (ci := 1) (v := .ref (ad 3)) (C := R_P) (T := F_P) (N := 3) hx hb hts (fun w h => gm (i_P w h)) hown hK G.1 1 rfl rfl 0 (by decide) (hts _ (gm tw_46)) (fun _ h9 => h9) rfl d_P_setBodyNumber_IIJ_28 ?_
      refine lv_iload hx hb d_P_setBodyNumber_IIJ_31 (lv_at hl 1 rfl) ?_
      refine lv_iload_n hx hb d_P_setBodyNumber_IIJ_33 rfl (lv_at hl 3 rfl) ?_
      refine lv_iadd hx hb d_P_setBodyNumber_IIJ_34 ?_
      refine lv_iload hx hb d_P_setBodyNumber_IIJ_35 (lv_at hl 0 rfl) ?_
      refine lv_if_eq (tgt := 47) hx hb d_P_setBodyNumber_IIJ_37 (by decide) (fun c0 => absurd c0 (by decide)) (fun _ => ?_)
      refine lv_lload_n hx hb d_P_setBodyNumber_IIJ_40 rfl (lv_at hl 5 rfl) ?_
      refine pu_l (As := [.long x3]) (rest := [.int (v1 + x1), .ref (ad 3)]) ⟨hx, hb, hml, hown, hts⟩ (c_I_toFloat_J l _ x3) pu_pre (gw_call (k := 1) hts tw_78 tw_79 tw_5 tw_80 (by decide +kernel) rfl rfl ⟨Nat.le_of_ble_eq_true rfl, Nat.le_of_ble_eq_true rfl⟩) rfl hl.1 rfl (Nat.le_of_ble_eq_true rfl) ⟨Nat.zero_le _, Nat.zero_le _⟩ d_P_setBodyNumber_IIJ_41 ?_
      refine lv_goto (tgt := 51) hx hb d_P_setBodyNumber_IIJ_44 (by decide) ?_
      obtain ⟨S6, e6⟩ : ∃ z : CS, z = u_sR S (vp_updL (sR S) (v1 + x1).toNatClampNeg (f_I_toFloat_J x3)) := ⟨_, rfl⟩
      refine hg_last hx hb hK G 3 0 rfl rfl (by rw [e1]; exact in_rb hk_x2 hk_x1) d_P_setBodyNumber_IIJ_51 (cW ad cJ cI S6) (by rw [e6]; rfl) (fun H locs G => ?_)
      exact hg_vret hx hb hr hlocks hK hAe G (by have qe1 := e1.symm; have qe6 := e6.symm; subst qe1 qe6; have e9 : f_P_setBodyNumber_IIJ S x1 x2 x3 = _ := (Eq.trans (if_neg c2) (if_pos c4)); exact Eq.symm (congrArg (cW ad cJ cI) e9)) d_P_setBodyNumber_IIJ_52
-- ===== MotionLab.body(IIJ)I 
abbrev y_L_body_IIJ : MethodName := ⟨"MotionLab", "body", "(IIJ)I"⟩
abbrev b_L_body_IIJ : ByteArray := prog_1_method_2_code
theorem d_L_body_IIJ_0 : decode b_L_body_IIJ 0 = .ok (.iload_n 1, 1) := by decide +kernel
theorem d_L_body_IIJ_1 : decode b_L_body_IIJ 1 = .ok (.invokestatic 20, 3) := by decide +kernel
theorem d_L_body_IIJ_4 : decode b_L_body_IIJ 4 = .ok (.ifCond .eq 10, 3) := by decide +kernel
theorem d_L_body_IIJ_7 : decode b_L_body_IIJ 7 = .ok (.iload_n 2, 1) := by decide +kernel
theorem d_L_body_IIJ_8 : decode b_L_body_IIJ 8 = .ok (.invokestatic 24, 3) := by decide +kernel
theorem d_L_body_IIJ_11 : decode b_L_body_IIJ 11 = .ok (.ifCond .ne 5, 3) := by decide +kernel
theorem d_L_body_IIJ_14 : decode b_L_body_IIJ 14 = .ok (.iconst (-1), 1) := by decide +kernel
theorem d_L_body_IIJ_15 : decode b_L_body_IIJ 15 = .ok (.ireturn, 1) := by decide +kernel
theorem d_L_body_IIJ_16 : decode b_L_body_IIJ 16 = .ok (.aload_n 0, 1) := by decide +kernel
theorem d_L_body_IIJ_17 : decode b_L_body_IIJ 17 = .ok (.getfield 10, 3) := by decide +kernel
theorem d_L_body_IIJ_20 : decode b_L_body_IIJ 20 = .ok (.iload_n 1, 1) := by decide +kernel
theorem d_L_body_IIJ_21 : decode b_L_body_IIJ 21 = .ok (.iload_n 2, 1) := by decide +kernel
theorem d_L_body_IIJ_22 : decode b_L_body_IIJ 22 = .ok (.lload_n 3, 1) := by decide +kernel
theorem d_L_body_IIJ_23 : decode b_L_body_IIJ 23 = .ok (.invokevirtual 27, 3) := by decide +kernel
theorem d_L_body_IIJ_26 : decode b_L_body_IIJ 26 = .ok (.iconst 0, 1) := by decide +kernel
theorem d_L_body_IIJ_27 : decode b_L_body_IIJ 27 = .ok (.ireturn, 1) := by decide +kernel
def f_L_body_IIJ (S : CS) (x1 : Int32) (x2 : Int32) (x3 : Int64) : Int32 × CS :=
  if (f_P_isBody_I x1) = 0 then
    ((-1 : Int32), S)
  else
    if (f_P_isBodyNumber_I x2) = 0 then
      ((-1 : Int32), S)
    else
      let S3 : CS := f_P_setBodyNumber_IIJ S x1 x2 x3
      ((0 : Int32), S3)
set_option maxHeartbeats 4000000 in
set_option maxRecDepth 100000 in
theorem c_L_body_IIJ (l : Launch) (dC : Nat → ClassId) (dI : Nat → Nat → Nat) (ad : Nat → Nat) (cJ cI : ClassId) (S : CS) (x1 : Int32) (x2 : Int32) (x3 : Int64) (sz : Nat) : hMi l y_L_body_IIJ (gw y_L_body_IIJ b_L_body_IIJ 5 (some .int)) { frames := 6, cells := 0, slots := 0, locals := 143 } [.ref (ad 0), .int x1, .int x2, .long x3] (dC, dI) classes (tysJI cJ cI) (fun _ => True) (cW ad cJ cI S) sz (f_L_body_IIJ S x1 x2 x3).1 (cW ad cJ cI (f_L_body_IIJ S x1 x2 x3).2) := by
  refine Met.ofW (cc := b_L_body_IIJ) (maxL := 5) (ret := (some .int)) (by decide) rfl ?_
  intro p e s m args below meth c s₁ B hml hv
  obtain ⟨rfl, hsz, hP, hK, hD0, hRT⟩ := hv
  have hx := B.exec
  have hb := B.bytes
  have hr := B.returns
  have hts := atoms_spec (ws := (gw y_L_body_IIJ b_L_body_IIJ 5 (some .int))) B.pre
  have hown : s.vm.findClass "MotionLab" = some m.cls := findClass_of_methodNamed B.named
  have hlocks := B.notSynchronized
  subst hsz
  have hD := hD0.self (sz := s.heap.size)
  generalize hAe : va_A (cW ad cJ cI S) s.heap.size = A at hD
  have hA : ∀ q : Nat, s.heap.size ≤ q → A q := fun q h => by rw [← hAe]; exact Or.inr h
  have G : hG (dC, dI) classes A s.heap (cW ad cJ cI S) s.heap [] := ⟨hP, hD, va_S.rf⟩
  have hl := lv_entry ([.ref (ad 0), .int x1, .int x2, .long x3]) (n := 5) (Nat.le_of_ble_eq_true rfl)
  rw [lg_entry_eq]
  generalize (lg_sl ([.ref (ad 0), .int x1, .int x2, .long x3]) ++ List.replicate (5 - (lg_sl ([.ref (ad 0), .int x1, .int x2, .long x3])).length) Slot.unset).toArray = ls at hl ⊢
  have hl : lv_has ls 5 [(0, .ref (ad 0)), (1, .int x1), (2, .int x2), (3, .long x3)] := hl
  refine lv_iload_n hx hb d_L_body_IIJ_0 rfl (lv_at hl 1 rfl) ?_
  refine pu_i (As := [.int x1]) (rest := []) ⟨hx, hb, hml, hown, hts⟩ (c_P_isBody_I l _ x1) pu_pre (gw_call (k := 1) hts tw_68 tw_69 tw_2 tw_70 (by decide +kernel) rfl rfl ⟨Nat.le_of_ble_eq_true rfl, Nat.le_of_ble_eq_true rfl⟩) rfl hl.1 rfl (Nat.le_of_ble_eq_true rfl) ⟨Nat.zero_le _, Nat.zero_le _⟩ d_L_body_IIJ_1 ?_
  refine lv_if_eq (tgt := 14) hx hb d_L_body_IIJ_4 (by decide) (fun c1 => ?_) (fun c1 => ?_)
  · refine lv_iconst (v := (-1)) hx hb d_L_body_IIJ_14 (by decide) ?_
    exact hg_iret hx hb hr hlocks hK hAe G (by have e9 : f_L_body_IIJ S x1 x2 x3 = _ := (if_pos c1); exact ⟨Eq.symm (congrArg Prod.fst e9), Eq.symm (congrArg (fun z => cW ad cJ cI z.2) e9)⟩) d_L_body_IIJ_15
  · refine lv_iload_n hx hb d_L_body_IIJ_7 rfl (lv_at hl 2 rfl) ?_
    refine pu_i (As := [.int x2]) (rest := []) ⟨hx, hb, hml, hown, hts⟩ (c_P_isBodyNumber_I l _ x2) pu_pre (gw_call (k := 1) hts tw_71 tw_72 tw_2 tw_73 (by decide +kernel) rfl rfl ⟨Nat.le_of_ble_eq_true rfl, Nat.le_of_ble_eq_true rfl⟩) rfl hl.1 rfl (Nat.le_of_ble_eq_true rfl) ⟨Nat.zero_le _, Nat.zero_le _⟩ d_L_body_IIJ_8 ?_
    refine lv_if_ne (tgt := 16) hx hb d_L_body_IIJ_11 (by decide) (fun c2 => ?_) (fun c2 => ?_)
    · refine lv_aload_n hx hb d_L_body_IIJ_16 rfl (lv_at hl 0 rfl) ?_
      refine va_get (D := (dC, dI)) (ci := 0) (v := .ref (ad 1)) (C := R_L) (T := F_L) (N := 2) hx hb hts (fun w h => gm (i_L w h)) hown hK G.1 0 rfl rfl 0 (by decide) (hts _ (gm tw_57)) (fun _ h9 => h9) rfl d_L_body_IIJ_17 ?_
      refine lv_iload_n hx hb d_L_body_IIJ_20 rfl (lv_at hl 1 rfl) ?_
      refine lv_iload_n hx hb d_L_body_IIJ_21 rfl (lv_at hl 2 rfl) ?_
      refine lv_lload_n hx hb d_L_body_IIJ_22 rfl (lv_at hl 3 rfl) ?_
      obtain ⟨S3, e3⟩ : ∃ z : CS, z = f_P_setBodyNumber_IIJ S x1 x2 x3 := ⟨_, rfl⟩
      refine hg_cv (As := [.int x1, .int x2, .long x3]) (rest := []) ⟨hx, hb, hml, hown, hts⟩ (c_P_setBodyNumber_IIJ l dC dI ad cJ cI S x1 x2 x3 (in_isBody c1) (in_isBodyNumber c2) _) (gw_callV (k := 3) hts tw_74 tw_75 tw_76 tw_2 tw_77 (by decide +kernel) rfl rfl ⟨Nat.le_of_ble_eq_true rfl, Nat.le_of_ble_eq_true rfl⟩) hK G hA (hx_T _ _) 1 1 rfl rfl rfl hl.1 rfl (Nat.le_of_ble_eq_true rfl) ⟨Nat.zero_le _, Nat.zero_le _⟩ d_L_body_IIJ_23 (fun H locs G => ?_)
      rw [← e3] at G
      refine lv_iconst (v := 0) hx hb d_L_body_IIJ_26 (by decide) ?_
      exact hg_iret hx hb hr hlocks hK hAe G (by have qe3 := e3.symm; subst qe3; have e9 : f_L_body_IIJ S x1 x2 x3 = _ := (Eq.trans (if_neg c1) (if_neg c2)); exact ⟨Eq.symm (congrArg Prod.fst e9), Eq.symm (congrArg (fun z => cW ad cJ cI z.2) e9)⟩) d_L_body_IIJ_27
    · refine lv_iconst (v := (-1)) hx hb d_L_body_IIJ_14 (by decide) ?_
      exact hg_iret hx hb hr hlocks hK hAe G (by have e9 : f_L_body_IIJ S x1 x2 x3 = _ := (Eq.trans (if_neg c1) (if_pos c2)); exact ⟨Eq.symm (congrArg Prod.fst e9), Eq.symm (congrArg (fun z => cW ad cJ cI z.2) e9)⟩) d_L_body_IIJ_15
-- ===== MotionLab$Plane.setFieldNumber(IJ)V 
abbrev y_P_setFieldNumber_IJ : MethodName := ⟨"MotionLab$Plane", "setFieldNumber", "(IJ)V"⟩
abbrev b_P_setFieldNumber_IJ : ByteArray := prog_3_method_6_code
theorem d_P_setFieldNumber_IJ_0 : decode b_P_setFieldNumber_IJ 0 = .ok (.iload_n 1, 1) := by decide +kernel
theorem d_P_setFieldNumber_IJ_1 : decode b_P_setFieldNumber_IJ 1 = .ok (.iconst 3, 1) := by decide +kernel
theorem d_P_setFieldNumber_IJ_2 : decode b_P_setFieldNumber_IJ 2 = .ok (.if_icmp .eq 8, 3) := by decide +kernel
theorem d_P_setFieldNumber_IJ_5 : decode b_P_setFieldNumber_IJ 5 = .ok (.iload_n 1, 1) := by decide +kernel
theorem d_P_setFieldNumber_IJ_6 : decode b_P_setFieldNumber_IJ 6 = .ok (.iconst 5, 1) := by decide +kernel
theorem d_P_setFieldNumber_IJ_7 : decode b_P_setFieldNumber_IJ 7 = .ok (.if_icmp .ne 7, 3) := by decide +kernel
theorem d_P_setFieldNumber_IJ_10 : decode b_P_setFieldNumber_IJ 10 = .ok (.iconst 1, 1) := by decide +kernel
theorem d_P_setFieldNumber_IJ_11 : decode b_P_setFieldNumber_IJ 11 = .ok (.goto 4, 3) := by decide +kernel
theorem d_P_setFieldNumber_IJ_14 : decode b_P_setFieldNumber_IJ 14 = .ok (.iconst 0, 1) := by decide +kernel
theorem d_P_setFieldNumber_IJ_15 : decode b_P_setFieldNumber_IJ 15 = .ok (.istore 4, 2) := by decide +kernel
theorem d_P_setFieldNumber_IJ_17 : decode b_P_setFieldNumber_IJ 17 = .ok (.aload_n 0, 1) := by decide +kernel
theorem d_P_setFieldNumber_IJ_18 : decode b_P_setFieldNumber_IJ 18 = .ok (.getfield 13, 3) := by decide +kernel
theorem d_P_setFieldNumber_IJ_21 : decode b_P_setFieldNumber_IJ 21 = .ok (.iload_n 1, 1) := by decide +kernel
theorem d_P_setFieldNumber_IJ_22 : decode b_P_setFieldNumber_IJ 22 = .ok (.iload 4, 2) := by decide +kernel
theorem d_P_setFieldNumber_IJ_24 : decode b_P_setFieldNumber_IJ 24 = .ok (.ifCond .eq 10, 3) := by decide +kernel
theorem d_P_setFieldNumber_IJ_27 : decode b_P_setFieldNumber_IJ 27 = .ok (.lload_n 2, 1) := by decide +kernel
theorem d_P_setFieldNumber_IJ_28 : decode b_P_setFieldNumber_IJ 28 = .ok (.invokestatic 31, 3) := by decide +kernel
theorem d_P_setFieldNumber_IJ_31 : decode b_P_setFieldNumber_IJ 31 = .ok (.goto 7, 3) := by decide +kernel
theorem d_P_setFieldNumber_IJ_34 : decode b_P_setFieldNumber_IJ 34 = .ok (.lload_n 2, 1) := by decide +kernel
theorem d_P_setFieldNumber_IJ_35 : decode b_P_setFieldNumber_IJ 35 = .ok (.invokestatic 35, 3) := by decide +kernel
theorem d_P_setFieldNumber_IJ_38 : decode b_P_setFieldNumber_IJ 38 = .ok (.lastore, 1) := by decide +kernel
theorem d_P_setFieldNumber_IJ_39 : decode b_P_setFieldNumber_IJ 39 = .ok (.return_, 1) := by decide +kernel
def f_P_setFieldNumber_IJ (S : CS) (x1 : Int32) (x2 : Int64) : CS :=
  if x1 = (3 : Int32) then
    let S2 : CS := u_sF S (vp_updL (sF S) x1.toNatClampNeg (f_I_toFloat_J x2))
    S2
  else
    if x1 = (5 : Int32) then
      let S5 : CS := u_sF S (vp_updL (sF S) x1.toNatClampNeg (f_I_toFloat_J x2))
      S5
    else
      let S4 : CS := u_sF S (vp_updL (sF S) x1.toNatClampNeg (f_I_told_J x2))
      S4
set_option maxHeartbeats 4000000 in
set_option maxRecDepth 100000 in
theorem c_P_setFieldNumber_IJ (l : Launch) (dC : Nat → ClassId) (dI : Nat → Nat → Nat) (ad : Nat → Nat) (cJ cI : ClassId) (S : CS) (x1 : Int32) (x2 : Int64) (hk_x1 : vp_in x1 6) (sz : Nat) : hMv l y_P_setFieldNumber_IJ (gw y_P_setFieldNumber_IJ b_P_setFieldNumber_IJ 5 none) { frames := 5, cells := 0, slots := 0, locals := 117 } [.ref (ad 1), .int x1, .long x2] (dC, dI) classes (tysJI cJ cI) (fun _ => True) (cW ad cJ cI S) sz (cW ad cJ cI (f_P_setFieldNumber_IJ S x1 x2)) := by
  refine Met.ofW (cc := b_P_setFieldNumber_IJ) (maxL := 5) (ret := none) (by decide) rfl ?_
  intro p e s m args below meth c s₁ B hml hv
  obtain ⟨rfl, hsz, hP, hK, hD0, hRT⟩ := hv
  have hx := B.exec
  have hb := B.bytes
  have hr := B.returns
  have hts := atoms_spec (ws := (gw y_P_setFieldNumber_IJ b_P_setFieldNumber_IJ 5 none)) B.pre
  have hown : s.vm.findClass "MotionLab$Plane" = some m.cls := findClass_of_methodNamed B.named
  have hlocks := B.notSynchronized
  subst hsz
  have hD := hD0.self (sz := s.heap.size)
  generalize hAe : va_A (cW ad cJ cI S) s.heap.size = A at hD
  have hA : ∀ q : Nat, s.heap.size ≤ q → A q := fun q h => by rw [← hAe]; exact Or.inr h
  have G : hG (dC, dI) classes A s.heap (cW ad cJ cI S) s.heap [] := ⟨hP, hD, va_S.rf⟩
  have hl := lv_entry ([.ref (ad 1), .int x1, .long x2]) (n := 5) (Nat.le_of_ble_eq_true rfl)
  rw [lg_entry_eq]
  generalize (lg_sl ([.ref (ad 1), .int x1, .long x2]) ++ List.replicate (5 - (lg_sl ([.ref (ad 1), .int x1, .long x2])).length) Slot.unset).toArray = ls at hl ⊢
  have hl : lv_has ls 5 [(0, .ref (ad 1)), (1, .int x1), (2, .long x2)] := hl
  refine lv_iload_n hx hb d_P_setFieldNumber_IJ_0 rfl (lv_at hl 1 rfl) ?_
  refine lv_iconst (v := 3) hx hb d_P_setFieldNumber_IJ_1 (by decide) ?_
  refine lv_icmp_eq (tgt := 10) hx hb d_P_setFieldNumber_IJ_2 (by decide) (fun c1 => ?_) (fun c1 => ?_)
  · refine lv_iconst (v := 1) hx hb d_P_setFieldNumber_IJ_10 (by decide) ?_
    refine lv_goto (tgt := 15) hx hb d_P_setFieldNumber_IJ_11 (by decide) ?_
    refine lv_istore (lv' := [(4, .int (1 : Int32)), (0, .ref (ad 1)), (1, .int x1), (2, .long x2)]) hx hb d_P_setFieldNumber_IJ_15 hl (by decide) rfl (fun ls hl => ?_)
    refine lv_aload_n hx hb d_P_setFieldNumber_IJ_17 rfl (lv_at hl 1 rfl) ?_
    refine va_get (D := (dC, dI)) (ci := 1) (v := .ref (ad 4)) (C := R_P) (T := F_P) (N := 3) hx hb hts (fun w h => gm (i_P w h)) hown hK G.1 1 rfl rfl 1 (by decide) (hts _ (gm tw_47)) (fun _ h9 => h9) rfl d_P_setFieldNumber_IJ_18 ?_
    refine lv_iload_n hx hb d_P_setFieldNumber_IJ_21 rfl (lv_at hl 2 rfl) ?_
    refine lv_iload hx hb d_P_setFieldNumber_IJ_22 (lv_at hl 0 rfl) ?_
    refine lv_if_eq (tgt := 34) hx hb d_P_setFieldNumber_IJ_24 (by decide) (fun c0 => absurd c0 (by decide)) (fun _ => ?_)
    refine lv_lload_n hx hb d_P_setFieldNumber_IJ_27 rfl (lv_at hl 3 rfl) ?_
    refine pu_l (As := [.long x2]) (rest := [.int x1, .ref (ad 4)]) ⟨hx, hb, hml, hown, hts⟩ (c_I_toFloat_J l _ x2) pu_pre (gw_call (k := 1) hts tw_78 tw_79 tw_5 tw_80 (by decide +kernel) rfl rfl ⟨Nat.le_of_ble_eq_true rfl, Nat.le_of_ble_eq_true rfl⟩) rfl hl.1 rfl (Nat.le_of_ble_eq_true rfl) ⟨Nat.zero_le _, Nat.zero_le _⟩ d_P_setFieldNumber_IJ_28 ?_
    refine lv_goto (tgt := 38) hx hb d_P_setFieldNumber_IJ_31 (by decide) ?_
    obtain ⟨S2, e2⟩ : ∃ z : CS, z = u_sF S (vp_updL (sF S) x1.toNatClampNeg (f_I_toFloat_J x2)) := ⟨_, rfl⟩
    refine hg_last hx hb hK G 4 0 rfl rfl hk_x1 d_P_setFieldNumber_IJ_38 (cW ad cJ cI S2) (by rw [e2]; rfl) (fun H locs G => ?_)
    exact hg_vret hx hb hr hlocks hK hAe G (by have qe2 := e2.symm; subst qe2; have e9 : f_P_setFieldNumber_IJ S x1 x2 = _ := (if_pos c1); exact Eq.symm (congrArg (cW ad cJ cI) e9)) d_P_setFieldNumber_IJ_39
  · refine lv_iload_n hx hb d_P_setFieldNumber_IJ_5 rfl (lv_at hl 1 rfl) ?_
    refine lv_iconst (v := 5) hx hb d_P_setFieldNumber_IJ_6 (by decide) ?_
    refine lv_icmp_ne (tgt := 14) hx hb d_P_setFieldNumber_IJ_7 (by decide) (fun c3 => ?_) (fun c3 => ?_)
    · refine lv_iconst (v := 0) hx hb d_P_setFieldNumber_IJ_14 (by decide) ?_
      refine lv_istore (lv' := [(4, .int (0 : Int32)), (0, .ref (ad 1)), (1, .int x1), (2, .long x2)]) hx hb d_P_setFieldNumber_IJ_15 hl (by decide) rfl (fun ls hl => ?_)
      refine lv_aload_n hx hb d_P_setFieldNumber_IJ_17 rfl (lv_at hl 1 rfl) ?_
      refine va_get (D := (dC, dI)) (ci := 1) (v := .ref (ad 4)) (C := R_P) (T := F_P) (N := 3) hx hb hts (fun w h => gm (i_P w h)) hown hK G.1 1 rfl rfl 1 (by decide) (hts _ (gm tw_47)) (fun _ h9 => h9) rfl d_P_setFieldNumber_IJ_18 ?_
      refine lv_iload_n hx hb d_P_setFieldNumber_IJ_21 rfl (lv_at hl 2 rfl) ?_
      refine lv_iload hx hb d_P_setFieldNumber_IJ_22 (lv_at hl 0 rfl) ?_
      refine lv_if_eq (tgt := 34) hx hb d_P_setFieldNumber_IJ_24 (by decide) (fun _ => ?_) (fun c0 => absurd c0 (by decide))
      refine lv_lload_n hx hb d_P_setFieldNumber_IJ_34 rfl (lv_at hl 3 rfl) ?_
      refine pu_l (As := [.long x2]) (rest := [.int x1, .ref (ad 4)]) ⟨hx, hb, hml, hown, hts⟩ (c_I_told_J l _ x2) pu_pre (gw_call (k := 1) hts tw_122 tw_87 tw_5 tw_88 (by decide +kernel) rfl rfl ⟨Nat.le_of_ble_eq_true rfl, Nat.le_of_ble_eq_true rfl⟩) rfl hl.1 rfl (Nat.le_of_ble_eq_true rfl) ⟨Nat.zero_le _, Nat.zero_le _⟩ d_P_setFieldNumber_IJ_35 ?_
      obtain ⟨S4, e4⟩ : ∃ z : CS, z = u_sF S (vp_updL (sF S) x1.toNatClampNeg (f_I_told_J x2)) := ⟨_, rfl⟩
      refine hg_last hx hb hK G 4 0 rfl rfl hk_x1 d_P_setFieldNumber_IJ_38 (cW ad cJ cI S4) (by rw [e4]; rfl) (fun H locs G => ?_)
      exact hg_vret hx hb hr hlocks hK hAe G (by have qe4 := e4.symm; subst qe4; have e9 : f_P_setFieldNumber_IJ S x1 x2 = _ := (Eq.trans (if_neg c1) (if_neg c3)); exact Eq.symm (congrArg (cW ad cJ cI) e9)) d_P_setFieldNumber_IJ_39
    · refine lv_iconst (v := 1) hx hb d_P_setFieldNumber_IJ_10 (by decide) ?_
      refine lv_goto (tgt := 15) hx hb d_P_setFieldNumber_IJ_11 (by decide) ?_
      refine lv_istore (lv' := [(4, .int (1 : Int32)), (0, .ref (ad 1)), (1, .int x1), (2, .long x2)]) hx hb d_P_setFieldNumber_IJ_15 hl (by decide) rfl (fun ls hl => ?_)
      refine lv_aload_n hx hb d_P_setFieldNumber_IJ_17 rfl (lv_at hl 1 rfl) ?_
      refine va_get (D := (dC, dI)) (ci := 1) (v := .ref (ad 4)) (C := R_P) (T := F_P) (N := 3) hx hb hts (fun w h => gm (i_P w h)) hown hK G.1 1 rfl rfl 1 (by decide) (hts _ (gm tw_47)) (fun _ h9 => h9) rfl d_P_setFieldNumber_IJ_18 ?_
      refine lv_iload_n hx hb d_P_setFieldNumber_IJ_21 rfl (lv_at hl 2 rfl) ?_
      refine lv_iload hx hb d_P_setFieldNumber_IJ_22 (lv_at hl 0 rfl) ?_
      refine lv_if_eq (tgt := 34) hx hb d_P_setFieldNumber_IJ_24 (by decide) (fun c0 => absurd c0 (by decide)) (fun _ => ?_)
      refine lv_lload_n hx hb d_P_setFieldNumber_IJ_27 rfl (lv_at hl 3 rfl) ?_
      refine pu_l (As := [.long x2]) (rest := [.int x1, .ref (ad 4)]) ⟨hx, hb, hml, hown, hts⟩ (c_I_toFloat_J l _ x2) pu_pre (gw_call (k := 1) hts tw_78 tw_79 tw_5 tw_80 (by decide +kernel) rfl rfl ⟨Nat.le_of_ble_eq_true rfl, Nat.le_of_ble_eq_true rfl⟩) rfl hl.1 rfl (Nat.le_of_ble_eq_true rfl) ⟨Nat.zero_le _, Nat.zero_le _⟩ d_P_setFieldNumber_IJ_28 ?_
      refine lv_goto (tgt := 38) hx hb d_P_setFieldNumber_IJ_31 (by decide) ?_
      obtain ⟨S5, e5⟩ : ∃ z : CS, z = u_sF S (vp_updL (sF S) x1.toNatClampNeg (f_I_toFloat_J x2)) := ⟨_, rfl⟩
      refine hg_last hx hb hK G 4 0 rfl rfl hk_x1 d_P_setFieldNumber_IJ_38 (cW ad cJ cI S5) (by rw [e5]; rfl) (fun H locs G => ?_)
      exact hg_vret hx hb hr hlocks hK hAe G (by have qe5 := e5.symm; subst qe5; have e9 : f_P_setFieldNumber_IJ S x1 x2 = _ := (Eq.trans (if_neg c1) (if_pos c3)); exact Eq.symm (congrArg (cW ad cJ cI) e9)) d_P_setFieldNumber_IJ_39
-- ===== MotionLab.field(IJ)I 
abbrev y_L_field_IJ : MethodName := ⟨"MotionLab", "field", "(IJ)I"⟩
abbrev b_L_field_IJ : ByteArray := prog_1_method_3_code
theorem d_L_field_IJ_0 : decode b_L_field_IJ 0 = .ok (.iload_n 1, 1) := by decide +kernel
theorem d_L_field_IJ_1 : decode b_L_field_IJ 1 = .ok (.invokestatic 31, 3) := by decide +kernel
theorem d_L_field_IJ_4 : decode b_L_field_IJ 4 = .ok (.ifCond .ne 5, 3) := by decide +kernel
theorem d_L_field_IJ_7 : decode b_L_field_IJ 7 = .ok (.iconst (-1), 1) := by decide +kernel
theorem d_L_field_IJ_8 : decode b_L_field_IJ 8 = .ok (.ireturn, 1) := by decide +kernel
theorem d_L_field_IJ_9 : decode b_L_field_IJ 9 = .ok (.aload_n 0, 1) := by decide +kernel
theorem d_L_field_IJ_10 : decode b_L_field_IJ 10 = .ok (.getfield 10, 3) := by decide +kernel
theorem d_L_field_IJ_13 : decode b_L_field_IJ 13 = .ok (.iload_n 1, 1) := by decide +kernel
theorem d_L_field_IJ_14 : decode b_L_field_IJ 14 = .ok (.lload_n 2, 1) := by decide +kernel
theorem d_L_field_IJ_15 : decode b_L_field_IJ 15 = .ok (.invokevirtual 34, 3) := by decide +kernel
theorem d_L_field_IJ_18 : decode b_L_field_IJ 18 = .ok (.iconst 0, 1) := by decide +kernel
theorem d_L_field_IJ_19 : decode b_L_field_IJ 19 = .ok (.ireturn, 1) := by decide +kernel
def f_L_field_IJ (S : CS) (x1 : Int32) (x2 : Int64) : Int32 × CS :=
  if (f_P_isFieldNumber_I x1) = 0 then
    ((-1 : Int32), S)
  else
    let S2 : CS := f_P_setFieldNumber_IJ S x1 x2
    ((0 : Int32), S2)
set_option maxHeartbeats 4000000 in
set_option maxRecDepth 100000 in
theorem c_L_field_IJ (l : Launch) (dC : Nat → ClassId) (dI : Nat → Nat → Nat) (ad : Nat → Nat) (cJ cI : ClassId) (S : CS) (x1 : Int32) (x2 : Int64) (sz : Nat) : hMi l y_L_field_IJ (gw y_L_field_IJ b_L_field_IJ 4 (some .int)) { frames := 6, cells := 0, slots := 0, locals := 141 } [.ref (ad 0), .int x1, .long x2] (dC, dI) classes (tysJI cJ cI) (fun _ => True) (cW ad cJ cI S) sz (f_L_field_IJ S x1 x2).1 (cW ad cJ cI (f_L_field_IJ S x1 x2).2) := by
  refine Met.ofW (cc := b_L_field_IJ) (maxL := 4) (ret := (some .int)) (by decide) rfl ?_
  intro p e s m args below meth c s₁ B hml hv
  obtain ⟨rfl, hsz, hP, hK, hD0, hRT⟩ := hv
  have hx := B.exec
  have hb := B.bytes
  have hr := B.returns
  have hts := atoms_spec (ws := (gw y_L_field_IJ b_L_field_IJ 4 (some .int))) B.pre
  have hown : s.vm.findClass "MotionLab" = some m.cls := findClass_of_methodNamed B.named
  have hlocks := B.notSynchronized
  subst hsz
  have hD := hD0.self (sz := s.heap.size)
  generalize hAe : va_A (cW ad cJ cI S) s.heap.size = A at hD
  have hA : ∀ q : Nat, s.heap.size ≤ q → A q := fun q h => by rw [← hAe]; exact Or.inr h
  have G : hG (dC, dI) classes A s.heap (cW ad cJ cI S) s.heap [] := ⟨hP, hD, va_S.rf⟩
  have hl := lv_entry ([.ref (ad 0), .int x1, .long x2]) (n := 4) (Nat.le_of_ble_eq_true rfl)
  rw [lg_entry_eq]
  generalize (lg_sl ([.ref (ad 0), .int x1, .long x2]) ++ List.replicate (4 - (lg_sl ([.ref (ad 0), .int x1, .long x2])).length) Slot.unset).toArray = ls at hl ⊢
  have hl : lv_has ls 4 [(0, .ref (ad 0)), (1, .int x1), (2, .long x2)] := hl
  refine lv_iload_n hx hb d_L_field_IJ_0 rfl (lv_at hl 1 rfl) ?_
  refine pu_i (As := [.int x1]) (rest := []) ⟨hx, hb, hml, hown, hts⟩ (c_P_isFieldNumber_I l _ x1) pu_pre (gw_call (k := 1) hts tw_127 tw_128 tw_2 tw_129 (by decide +kernel) rfl rfl ⟨Nat.le_of_ble_eq_true rfl, Nat.le_of_ble_eq_true rfl⟩) rfl hl.1 rfl (Nat.le_of_ble_eq_true rfl) ⟨Nat.zero_le _, Nat.zero_le _⟩ d_L_field_IJ_1 ?_
  refine lv_if_ne (tgt := 9) hx hb d_L_field_IJ_4 (by decide) (fun c1 => ?_) (fun c1 => ?_)
  · refine lv_aload_n hx hb d_L_field_IJ_9 rfl (lv_at hl 0 rfl) ?_
    refine va_get (D := (dC, dI)) (ci := 0) (v := .ref (ad 1)) (C := R_L) (T := F_L) (N := 2) hx hb hts (fun w h => gm (i_L w h)) hown hK G.1 0 rfl rfl 0 (by decide) (hts _ (gm tw_57)) (fun _ h9 => h9) rfl d_L_field_IJ_10 ?_
    refine lv_iload_n hx hb d_L_field_IJ_13 rfl (lv_at hl 1 rfl) ?_
    refine lv_lload_n hx hb d_L_field_IJ_14 rfl (lv_at hl 2 rfl) ?_
    obtain ⟨S2, e2⟩ : ∃ z : CS, z = f_P_setFieldNumber_IJ S x1 x2 := ⟨_, rfl⟩
    refine hg_cv (As := [.int x1, .long x2]) (rest := []) ⟨hx, hb, hml, hown, hts⟩ (c_P_setFieldNumber_IJ l dC dI ad cJ cI S x1 x2 (in_isFieldNumber c1) _) (gw_callV (k := 2) hts tw_130 tw_131 tw_132 tw_2 tw_133 (by decide +kernel) rfl rfl ⟨Nat.le_of_ble_eq_true rfl, Nat.le_of_ble_eq_true rfl⟩) hK G hA (hx_T _ _) 1 1 rfl rfl rfl hl.1 rfl (Nat.le_of_ble_eq_true rfl) ⟨Nat.zero_le _, Nat.zero_le _⟩ d_L_field_IJ_15 (fun H locs G => ?_)
    rw [← e2] at G
    refine lv_iconst (v := 0) hx hb d_L_field_IJ_18 (by decide) ?_
    exact hg_iret hx hb hr hlocks hK hAe G (by have qe2 := e2.symm; subst qe2; have e9 : f_L_field_IJ S x1 x2 = _ := (if_neg c1); exact ⟨Eq.symm (congrArg Prod.fst e9), Eq.symm (congrArg (fun z => cW ad cJ cI z.2) e9)⟩) d_L_field_IJ_19
  · refine lv_iconst (v := (-1)) hx hb d_L_field_IJ_7 (by decide) ?_
    exact hg_iret hx hb hr hlocks hK hAe G (by have e9 : f_L_field_IJ S x1 x2 = _ := (if_pos c1); exact ⟨Eq.symm (congrArg Prod.fst e9), Eq.symm (congrArg (fun z => cW ad cJ cI z.2) e9)⟩) d_L_field_IJ_8
-- ===== MotionLab$Springs.isFull()Z 
abbrev y_S_isFull : MethodName := ⟨"MotionLab$Springs", "isFull", "()Z"⟩
abbrev b_S_isFull : ByteArray := prog_4_method_2_code
theorem d_S_isFull_0 : decode b_S_isFull 0 = .ok (.aload_n 0, 1) := by decide +kernel
theorem d_S_isFull_1 : decode b_S_isFull 1 = .ok (.getfield 17, 3) := by decide +kernel
theorem d_S_isFull_4 : decode b_S_isFull 4 = .ok (.bipush 10, 2) := by decide +kernel
theorem d_S_isFull_6 : decode b_S_isFull 6 = .ok (.if_icmp .lt 7, 3) := by decide +kernel
theorem d_S_isFull_9 : decode b_S_isFull 9 = .ok (.iconst 1, 1) := by decide +kernel
theorem d_S_isFull_10 : decode b_S_isFull 10 = .ok (.goto 4, 3) := by decide +kernel
theorem d_S_isFull_13 : decode b_S_isFull 13 = .ok (.iconst 0, 1) := by decide +kernel
theorem d_S_isFull_14 : decode b_S_isFull 14 = .ok (.ireturn, 1) := by decide +kernel
def f_S_isFull (S : CS) : Int32 :=
  if (sC S) < (10 : Int32) then
    (0 : Int32)
  else
    (1 : Int32)
set_option maxHeartbeats 4000000 in
set_option maxRecDepth 100000 in
theorem c_S_isFull (l : Launch) (dC : Nat → ClassId) (dI : Nat → Nat → Nat) (ad : Nat → Nat) (cJ cI : ClassId) (S : CS)  (sz : Nat) : hMi l y_S_isFull (gw y_S_isFull b_S_isFull 1 (some .boolean)) { frames := 0, cells := 0, slots := 0, locals := 0 } [.ref (ad 5)] (dC, dI) classes (tysJI cJ cI) (fun _ => True) (cW ad cJ cI S) sz (f_S_isFull S) (cW ad cJ cI S) := by
  refine Met.ofW (cc := b_S_isFull) (maxL := 1) (ret := (some .boolean)) (by decide) rfl ?_
  intro p e s m args below meth c s₁ B hml hv
  obtain ⟨rfl, hsz, hP, hK, hD0, hRT⟩ := hv
  have hx := B.exec
  have hb := B.bytes
  have hr := B.returns
  have hts := atoms_spec (ws := (gw y_S_isFull b_S_isFull 1 (some .boolean))) B.pre
  have hown : s.vm.findClass "MotionLab$Springs" = some m.cls := findClass_of_methodNamed B.named
  have hlocks := B.notSynchronized
  subst hsz
  have hD := hD0.self (sz := s.heap.size)
  generalize hAe : va_A (cW ad cJ cI S) s.heap.size = A at hD
  have hA : ∀ q : Nat, s.heap.size ≤ q → A q := fun q h => by rw [← hAe]; exact Or.inr h
  have G : hG (dC, dI) classes A s.heap (cW ad cJ cI S) s.heap [] := ⟨hP, hD, va_S.rf⟩
  have hl := lv_entry ([.ref (ad 5)]) (n := 1) (Nat.le_of_ble_eq_true rfl)
  rw [lg_entry_eq]
  generalize (lg_sl ([.ref (ad 5)]) ++ List.replicate (1 - (lg_sl ([.ref (ad 5)])).length) Slot.unset).toArray = ls at hl ⊢
  have hl : lv_has ls 1 [(0, .ref (ad 5))] := hl
  refine lv_aload_n hx hb d_S_isFull_0 rfl (lv_at hl 0 rfl) ?_
  refine va_get (D := (dC, dI)) (ci := 2) (v := .int (sC S)) (C := R_S) (T := F_S) (N := 3) hx hb hts (fun w h => gm (i_S w h)) hown hK G.1 5 rfl rfl 2 (by decide) (hts _ (gm tw_31)) (fun _ h9 => h9) rfl d_S_isFull_1 ?_
  refine lv_bipush (v := (10 : Int32)) hx hb d_S_isFull_4 (by decide) ?_
  refine lv_icmp_lt (tgt := 13) hx hb d_S_isFull_6 (by decide) (fun c1 => ?_) (fun c1 => ?_)
  · refine lv_iconst (v := 0) hx hb d_S_isFull_13 (by decide) ?_
    exact hg_zret hx hb hr rfl hlocks hK hAe G (by have e9 : f_S_isFull S = _ := (if_pos c1); exact ⟨Eq.symm e9, rfl⟩) d_S_isFull_14
  · refine lv_iconst (v := 1) hx hb d_S_isFull_9 (by decide) ?_
    refine lv_goto (tgt := 14) hx hb d_S_isFull_10 (by decide) ?_
    exact hg_zret hx hb hr rfl hlocks hK hAe G (by have e9 : f_S_isFull S = _ := (if_neg c1); exact ⟨Eq.symm e9, rfl⟩) d_S_isFull_14
theorem spring_room {S : CS} (h : vp_in (sC S) 11) (c : f_S_isFull S = 0) : vp_in (sC S) 10 := by
  unfold f_S_isFull at c
  by_cases g : sC S < (10 : Int32)
  · rw [Int32.lt_iff_toInt_lt] at g
    obtain ⟨a, b, d⟩ := in_to h
    have z : (10 : Int32).toInt = 10 := rfl
    exact in_of a (by omega)
  · rw [if_neg g] at c; exact absurd c (by decide)
-- ===== MotionLab$Springs.add(IIJJJ)I 
abbrev y_S_add_IIJJJ : MethodName := ⟨"MotionLab$Springs", "add", "(IIJJJ)I"⟩
abbrev b_S_add_IIJJJ : ByteArray := prog_4_method_3_code
theorem d_S_add_IIJJJ_0 : decode b_S_add_IIJJJ 0 = .ok (.aload_n 0, 1) := by decide +kernel
theorem d_S_add_IIJJJ_1 : decode b_S_add_IIJJJ 1 = .ok (.getfield 9, 3) := by decide +kernel
theorem d_S_add_IIJJJ_4 : decode b_S_add_IIJJJ 4 = .ok (.aload_n 0, 1) := by decide +kernel
theorem d_S_add_IIJJJ_5 : decode b_S_add_IIJJJ 5 = .ok (.getfield 17, 3) := by decide +kernel
theorem d_S_add_IIJJJ_8 : decode b_S_add_IIJJJ 8 = .ok (.iconst 2, 1) := by decide +kernel
theorem d_S_add_IIJJJ_9 : decode b_S_add_IIJJJ 9 = .ok (.imul, 1) := by decide +kernel
theorem d_S_add_IIJJJ_10 : decode b_S_add_IIJJJ 10 = .ok (.iload_n 1, 1) := by decide +kernel
theorem d_S_add_IIJJJ_11 : decode b_S_add_IIJJJ 11 = .ok (.iastore, 1) := by decide +kernel
theorem d_S_add_IIJJJ_12 : decode b_S_add_IIJJJ 12 = .ok (.aload_n 0, 1) := by decide +kernel
theorem d_S_add_IIJJJ_13 : decode b_S_add_IIJJJ 13 = .ok (.getfield 9, 3) := by decide +kernel
theorem d_S_add_IIJJJ_16 : decode b_S_add_IIJJJ 16 = .ok (.aload_n 0, 1) := by decide +kernel
theorem d_S_add_IIJJJ_17 : decode b_S_add_IIJJJ 17 = .ok (.getfield 17, 3) := by decide +kernel
theorem d_S_add_IIJJJ_20 : decode b_S_add_IIJJJ 20 = .ok (.iconst 2, 1) := by decide +kernel
theorem d_S_add_IIJJJ_21 : decode b_S_add_IIJJJ 21 = .ok (.imul, 1) := by decide +kernel
theorem d_S_add_IIJJJ_22 : decode b_S_add_IIJJJ 22 = .ok (.iconst 1, 1) := by decide +kernel
theorem d_S_add_IIJJJ_23 : decode b_S_add_IIJJJ 23 = .ok (.iadd, 1) := by decide +kernel
theorem d_S_add_IIJJJ_24 : decode b_S_add_IIJJJ 24 = .ok (.iload_n 2, 1) := by decide +kernel
theorem d_S_add_IIJJJ_25 : decode b_S_add_IIJJJ 25 = .ok (.iastore, 1) := by decide +kernel
theorem d_S_add_IIJJJ_26 : decode b_S_add_IIJJJ 26 = .ok (.aload_n 0, 1) := by decide +kernel
theorem d_S_add_IIJJJ_27 : decode b_S_add_IIJJJ 27 = .ok (.getfield 13, 3) := by decide +kernel
theorem d_S_add_IIJJJ_30 : decode b_S_add_IIJJJ 30 = .ok (.aload_n 0, 1) := by decide +kernel
theorem d_S_add_IIJJJ_31 : decode b_S_add_IIJJJ 31 = .ok (.getfield 17, 3) := by decide +kernel
theorem d_S_add_IIJJJ_34 : decode b_S_add_IIJJJ 34 = .ok (.iconst 3, 1) := by decide +kernel
theorem d_S_add_IIJJJ_35 : decode b_S_add_IIJJJ 35 = .ok (.imul, 1) := by decide +kernel
theorem d_S_add_IIJJJ_36 : decode b_S_add_IIJJJ 36 = .ok (.lload_n 3, 1) := by decide +kernel
theorem d_S_add_IIJJJ_37 : decode b_S_add_IIJJJ 37 = .ok (.lastore, 1) := by decide +kernel
theorem d_S_add_IIJJJ_38 : decode b_S_add_IIJJJ 38 = .ok (.aload_n 0, 1) := by decide +kernel
theorem d_S_add_IIJJJ_39 : decode b_S_add_IIJJJ 39 = .ok (.getfield 13, 3) := by decide +kernel
theorem d_S_add_IIJJJ_42 : decode b_S_add_IIJJJ 42 = .ok (.aload_n 0, 1) := by decide +kernel
theorem d_S_add_IIJJJ_43 : decode b_S_add_IIJJJ 43 = .ok (.getfield 17, 3) := by decide +kernel
theorem d_S_add_IIJJJ_46 : decode b_S_add_IIJJJ 46 = .ok (.iconst 3, 1) := by decide +kernel
theorem d_S_add_IIJJJ_47 : decode b_S_add_IIJJJ 47 = .ok (.imul, 1) := by decide +kernel
theorem d_S_add_IIJJJ_48 : decode b_S_add_IIJJJ 48 = .ok (.iconst 1, 1) := by decide +kernel
theorem d_S_add_IIJJJ_49 : decode b_S_add_IIJJJ 49 = .ok (.iadd, 1) := by decide +kernel
theorem d_S_add_IIJJJ_50 : decode b_S_add_IIJJJ 50 = .ok (.lload 5, 2) := by decide +kernel
theorem d_S_add_IIJJJ_52 : decode b_S_add_IIJJJ 52 = .ok (.lastore, 1) := by decide +kernel
theorem d_S_add_IIJJJ_53 : decode b_S_add_IIJJJ 53 = .ok (.aload_n 0, 1) := by decide +kernel
theorem d_S_add_IIJJJ_54 : decode b_S_add_IIJJJ 54 = .ok (.getfield 13, 3) := by decide +kernel
theorem d_S_add_IIJJJ_57 : decode b_S_add_IIJJJ 57 = .ok (.aload_n 0, 1) := by decide +kernel
theorem d_S_add_IIJJJ_58 : decode b_S_add_IIJJJ 58 = .ok (.getfield 17, 3) := by decide +kernel
theorem d_S_add_IIJJJ_61 : decode b_S_add_IIJJJ 61 = .ok (.iconst 3, 1) := by decide +kernel
theorem d_S_add_IIJJJ_62 : decode b_S_add_IIJJJ 62 = .ok (.imul, 1) := by decide +kernel
theorem d_S_add_IIJJJ_63 : decode b_S_add_IIJJJ 63 = .ok (.iconst 2, 1) := by decide +kernel
theorem d_S_add_IIJJJ_64 : decode b_S_add_IIJJJ 64 = .ok (.iadd, 1) := by decide +kernel
theorem d_S_add_IIJJJ_65 : decode b_S_add_IIJJJ 65 = .ok (.lload 7, 2) := by decide +kernel
theorem d_S_add_IIJJJ_67 : decode b_S_add_IIJJJ 67 = .ok (.lastore, 1) := by decide +kernel
theorem d_S_add_IIJJJ_68 : decode b_S_add_IIJJJ 68 = .ok (.aload_n 0, 1) := by decide +kernel
theorem d_S_add_IIJJJ_69 : decode b_S_add_IIJJJ 69 = .ok (.dup, 1) := by decide +kernel
theorem d_S_add_IIJJJ_70 : decode b_S_add_IIJJJ 70 = .ok (.getfield 17, 3) := by decide +kernel
theorem d_S_add_IIJJJ_73 : decode b_S_add_IIJJJ 73 = .ok (.iconst 1, 1) := by decide +kernel
theorem d_S_add_IIJJJ_74 : decode b_S_add_IIJJJ 74 = .ok (.iadd, 1) := by decide +kernel
theorem d_S_add_IIJJJ_75 : decode b_S_add_IIJJJ 75 = .ok (.putfield 17, 3) := by decide +kernel
theorem d_S_add_IIJJJ_78 : decode b_S_add_IIJJJ 78 = .ok (.aload_n 0, 1) := by decide +kernel
theorem d_S_add_IIJJJ_79 : decode b_S_add_IIJJJ 79 = .ok (.getfield 17, 3) := by decide +kernel
theorem d_S_add_IIJJJ_82 : decode b_S_add_IIJJJ 82 = .ok (.iconst 1, 1) := by decide +kernel
theorem d_S_add_IIJJJ_83 : decode b_S_add_IIJJJ 83 = .ok (.isub, 1) := by decide +kernel
theorem d_S_add_IIJJJ_84 : decode b_S_add_IIJJJ 84 = .ok (.ireturn, 1) := by decide +kernel
def f_S_add_IIJJJ (S : CS) (x1 : Int32) (x2 : Int32) (x3 : Int64) (x5 : Int64) (x7 : Int64) : Int32 × CS :=
  let S1 : CS := u_sB S (upd (sB S) ((sC S) * (2 : Int32)).toNatClampNeg x1)
  let S2 : CS := u_sB S1 (upd (sB S1) (((sC S1) * (2 : Int32)) + (1 : Int32)).toNatClampNeg x2)
  let S3 : CS := u_sN S2 (vp_updL (sN S2) ((sC S2) * (3 : Int32)).toNatClampNeg x3)
  let S4 : CS := u_sN S3 (vp_updL (sN S3) (((sC S3) * (3 : Int32)) + (1 : Int32)).toNatClampNeg x5)
  let S5 : CS := u_sN S4 (vp_updL (sN S4) (((sC S4) * (3 : Int32)) + (2 : Int32)).toNatClampNeg x7)
  let S6 : CS := u_sC S5 ((sC S5) + (1 : Int32))
  ((sC S6) - (1 : Int32), S6)
set_option maxHeartbeats 4000000 in
set_option maxRecDepth 100000 in
theorem c_S_add_IIJJJ (l : Launch) (dC : Nat → ClassId) (dI : Nat → Nat → Nat) (ad : Nat → Nat) (cJ cI : ClassId) (S : CS) (x1 : Int32) (x2 : Int32) (x3 : Int64) (x5 : Int64) (x7 : Int64) (hC : vp_in (sC S) 10) (sz : Nat) : hMi l y_S_add_IIJJJ (gw y_S_add_IIJJJ b_S_add_IIJJJ 9 (some .int)) { frames := 0, cells := 0, slots := 0, locals := 0 } [.ref (ad 5), .int x1, .int x2, .long x3, .long x5, .long x7] (dC, dI) classes (tysJI cJ cI) (fun _ => True) (cW ad cJ cI S) sz (f_S_add_IIJJJ S x1 x2 x3 x5 x7).1 (cW ad cJ cI (f_S_add_IIJJJ S x1 x2 x3 x5 x7).2) := by
  refine Met.ofW (cc := b_S_add_IIJJJ) (maxL := 9) (ret := (some .int)) (by decide) rfl ?_
  intro p e s m args below meth c s₁ B hml hv
  obtain ⟨rfl, hsz, hP, hK, hD0, hRT⟩ := hv
  have hx := B.exec
  have hb := B.bytes
  have hr := B.returns
  have hts := atoms_spec (ws := (gw y_S_add_IIJJJ b_S_add_IIJJJ 9 (some .int))) B.pre
  have hown : s.vm.findClass "MotionLab$Springs" = some m.cls := findClass_of_methodNamed B.named
  have hlocks := B.notSynchronized
  subst hsz
  have hD := hD0.self (sz := s.heap.size)
  generalize hAe : va_A (cW ad cJ cI S) s.heap.size = A at hD
  have hA : ∀ q : Nat, s.heap.size ≤ q → A q := fun q h => by rw [← hAe]; exact Or.inr h
  have G : hG (dC, dI) classes A s.heap (cW ad cJ cI S) s.heap [] := ⟨hP, hD, va_S.rf⟩
  have hl := lv_entry ([.ref (ad 5), .int x1, .int x2, .long x3, .long x5, .long x7]) (n := 9) (Nat.le_of_ble_eq_true rfl)
  rw [lg_entry_eq]
  generalize (lg_sl ([.ref (ad 5), .int x1, .int x2, .long x3, .long x5, .long x7]) ++ List.replicate (9 - (lg_sl ([.ref (ad 5), .int x1, .int x2, .long x3, .long x5, .long x7])).length) Slot.unset).toArray = ls at hl ⊢
  have hl : lv_has ls 9 [(0, .ref (ad 5)), (1, .int x1), (2, .int x2), (3, .long x3), (5, .long x5), (7, .long x7)] := hl
  refine lv_aload_n hx hb d_S_add_IIJJJ_0 rfl (lv_at hl 0 rfl) ?_
  refine va_get (D := (dC, dI)) (ci := 2) (v := .ref (ad 6)) (C := R_S) (T := F_S) (N := 3) hx hb hts (fun w h => gm (i_S w h)) hown hK G.1 5 rfl rfl 0 (by decide) (hts _ (gm tw_29)) (fun _ h9 => h9) rfl d_S_add_IIJJJ_1 ?_
  refine lv_aload_n hx hb d_S_add_IIJJJ_4 rfl (lv_at hl 0 rfl) ?_
  refine va_get (D := (dC, dI)) (ci := 2) (v := .int (sC S)) (C := R_S) (T := F_S) (N := 3) hx hb hts (fun w h => gm (i_S w h)) hown hK G.1 5 rfl rfl 2 (by decide) (hts _ (gm tw_31)) (fun _ h9 => h9) rfl d_S_add_IIJJJ_5 ?_
  refine lv_iconst (v := 2) hx hb d_S_add_IIJJJ_8 (by decide) ?_
  refine lv_imul hx hb d_S_add_IIJJJ_9 ?_
  refine lv_iload_n hx hb d_S_add_IIJJJ_10 rfl (lv_at hl 1 rfl) ?_
  obtain ⟨S1, e1⟩ : ∃ z : CS, z = u_sB S (upd (sB S) ((sC S) * (2 : Int32)).toNatClampNeg x1) := ⟨_, rfl⟩
  refine hg_iast hx hb hK G 6 1 rfl rfl (in_ml hC (by decide)) d_S_add_IIJJJ_11 (cW ad cJ cI S1) (by rw [e1]; rfl) (fun H locs G => ?_)
  refine lv_aload_n hx hb d_S_add_IIJJJ_12 rfl (lv_at hl 0 rfl) ?_
  refine va_get (D := (dC, dI)) (ci := 2) (v := .ref (ad 6)) (C := R_S) (T := F_S) (N := 3) hx hb hts (fun w h => gm (i_S w h)) hown hK G.1 5 rfl rfl 0 (by decide) (hts _ (gm tw_29)) (fun _ h9 => h9) rfl d_S_add_IIJJJ_13 ?_
  refine lv_aload_n hx hb d_S_add_IIJJJ_16 rfl (lv_at hl 0 rfl) ?_
  refine va_get (D := (dC, dI)) (ci := 2) (v := .int (sC S1)) (C := R_S) (T := F_S) (N := 3) hx hb hts (fun w h => gm (i_S w h)) hown hK G.1 5 rfl rfl 2 (by decide) (hts _ (gm tw_31)) (fun _ h9 => h9) rfl d_S_add_IIJJJ_17 ?_
  refine lv_iconst (v := 2) hx hb d_S_add_IIJJJ_20 (by decide) ?_
  refine lv_imul hx hb d_S_add_IIJJJ_21 ?_
  refine lv_iconst (v := 1) hx hb d_S_add_IIJJJ_22 (by decide) ?_
  refine lv_iadd hx hb d_S_add_IIJJJ_23 ?_
  refine lv_iload_n hx hb d_S_add_IIJJJ_24 rfl (lv_at hl 2 rfl) ?_
  obtain ⟨S2, e2⟩ : ∃ z : CS, z = u_sB S1 (upd (sB S1) (((sC S1) * (2 : Int32)) + (1 : Int32)).toNatClampNeg x2) := ⟨_, rfl⟩
  refine hg_iast hx hb hK G 6 1 rfl rfl (in_mla (by have qe1 := e1.symm; subst qe1; exact hC) (by decide)) d_S_add_IIJJJ_25 (cW ad cJ cI S2) (by rw [e2]; rfl) (fun H locs G => ?_)
  refine lv_aload_n hx hb d_S_add_IIJJJ_26 rfl (lv_at hl 0 rfl) ?_
  refine va_get (D := (dC, dI)) (ci := 2) (v := .ref (ad 7)) (C := R_S) (T := F_S) (N := 3) hx hb hts (fun w h => gm (i_S w h)) hown hK G.1 5 rfl rfl 1 (by decide) (hts _ (gm tw_30)) (fun _ h9 => h9) rfl d_S_add_IIJJJ_27 ?_
  refine lv_aload_n hx hb d_S_add_IIJJJ_30 rfl (lv_at hl 0 rfl) ?_
  refine va_get (D := (dC, dI)) (ci := 2) (v := .int (sC S2)) (C := R_S) (T := F_S) (N := 3) hx hb hts (fun w h => gm (i_S w h)) hown hK G.1 5 rfl rfl 2 (by decide) (hts _ (gm tw_31)) (fun _ h9 => h9) rfl d_S_add_IIJJJ_31 ?_
  refine lv_iconst (v := 3) hx hb d_S_add_IIJJJ_34 (by decide) ?_
  refine lv_imul hx hb d_S_add_IIJJJ_35 ?_
  refine lv_lload_n hx hb d_S_add_IIJJJ_36 rfl (lv_at hl 3 rfl) ?_
  obtain ⟨S3, e3⟩ : ∃ z : CS, z = u_sN S2 (vp_updL (sN S2) ((sC S2) * (3 : Int32)).toNatClampNeg x3) := ⟨_, rfl⟩
  refine hg_last hx hb hK G 7 0 rfl rfl (in_ml (by have qe1 := e1.symm; have qe2 := e2.symm; subst qe1 qe2; exact hC) (by decide)) d_S_add_IIJJJ_37 (cW ad cJ cI S3) (by rw [e3]; rfl) (fun H locs G => ?_)
  refine lv_aload_n hx hb d_S_add_IIJJJ_38 rfl (lv_at hl 0 rfl) ?_
  refine va_get (D := (dC, dI)) (ci := 2) (v := .ref (ad 7)) (C := R_S) (T := F_S) (N := 3) hx hb hts (fun w h => gm (i_S w h)) hown hK G.1 5 rfl rfl 1 (by decide) (hts _ (gm tw_30)) (fun _ h9 => h9) rfl d_S_add_IIJJJ_39 ?_
  refine lv_aload_n hx hb d_S_add_IIJJJ_42 rfl (lv_at hl 0 rfl) ?_
  refine va_get (D := (dC, dI)) (ci := 2) (v := .int (sC S3)) (C := R_S) (T := F_S) (N := 3) hx hb hts (fun w h => gm (i_S w h)) hown hK G.1 5 rfl rfl 2 (by decide) (hts _ (gm tw_31)) (fun _ h9 => h9) rfl d_S_add_IIJJJ_43 ?_
  refine lv_iconst (v := 3) hx hb d_S_add_IIJJJ_46 (by decide) ?_
  refine lv_imul hx hb d_S_add_IIJJJ_47 ?_
  refine lv_iconst (v := 1) hx hb d_S_add_IIJJJ_48 (by decide) ?_
  refine lv_iadd hx hb d_S_add_IIJJJ_49 ?_
  refine lv_lload hx hb d_S_add_IIJJJ_50 (lv_at hl 4 rfl) ?_
  obtain ⟨S4, e4⟩ : ∃ z : CS, z = u_sN S3 (vp_updL (sN S3) (((sC S3) * (3 : Int32)) + (1 : Int32)).toNatClampNeg x5) := ⟨_, rfl⟩
  refine hg_last hx hb hK G 7 0 rfl rfl (in_mla (by have qe1 := e1.symm; have qe2 := e2.symm; have qe3 := e3.symm; subst qe1 qe2 qe3; exact hC) (by decide)) d_S_add_IIJJJ_52 (cW ad cJ cI S4) (by rw [e4]; rfl) (fun H locs G => ?_)
  refine lv_aload_n hx hb d_S_add_IIJJJ_53 rfl (lv_at hl 0 rfl) ?_
  refine va_get (D := (dC, dI)) (ci := 2) (v := .ref (ad 7)) (C := R_S) (T := F_S) (N := 3) hx hb hts (fun w h => gm (i_S w h)) hown hK G.1 5 rfl rfl 1 (by decide) (hts _ (gm tw_30)) (fun _ h9 => h9) rfl d_S_add_IIJJJ_54 ?_
  refine lv_aload_n hx hb d_S_add_IIJJJ_57 rfl (lv_at hl 0 rfl) ?_
  refine va_get (D := (dC, dI)) (ci := 2) (v := .int (sC S4)) (C := R_S) (T := F_S) (N := 3) hx hb hts (fun w h => gm (i_S w h)) hown hK G.1 5 rfl rfl 2 (by decide) (hts _ (gm tw_31)) (fun _ h9 => h9) rfl d_S_add_IIJJJ_58 ?_
  refine lv_iconst (v := 3) hx hb d_S_add_IIJJJ_61 (by decide) ?_
  refine lv_imul hx hb d_S_add_IIJJJ_62 ?_
  refine lv_iconst (v := 2) hx hb d_S_add_IIJJJ_63 (by decide) ?_
  refine lv_iadd hx hb d_S_add_IIJJJ_64 ?_
  refine lv_lload hx hb d_S_add_IIJJJ_65 (lv_at hl 5 rfl) ?_
  obtain ⟨S5, e5⟩ : ∃ z : CS, z = u_sN S4 (vp_updL (sN S4) (((sC S4) * (3 : Int32)) + (2 : Int32)).toNatClampNeg x7) := ⟨_, rfl⟩
  refine hg_last hx hb hK G 7 0 rfl rfl (in_mla (by have qe1 := e1.symm; have qe2 := e2.symm; have qe3 := e3.symm; have qe4 := e4.symm; subst qe1 qe2 qe3 qe4; exact hC) (by decide)) d_S_add_IIJJJ_67 (cW ad cJ cI S5) (by rw [e5]; rfl) (fun H locs G => ?_)
  refine lv_aload_n hx hb d_S_add_IIJJJ_68 rfl (lv_at hl 0 rfl) ?_
  refine lv_dup hx hb d_S_add_IIJJJ_69 rfl ?_
  refine va_get (D := (dC, dI)) (ci := 2) (v := .int (sC S5)) (C := R_S) (T := F_S) (N := 3) hx hb hts (fun w h => gm (i_S w h)) hown hK G.1 5 rfl rfl 2 (by decide) (hts _ (gm tw_31)) (fun _ h9 => h9) rfl d_S_add_IIJJJ_70 ?_
  refine lv_iconst (v := 1) hx hb d_S_add_IIJJJ_73 (by decide) ?_
  refine lv_iadd hx hb d_S_add_IIJJJ_74 ?_
  obtain ⟨S6, e6⟩ : ∃ z : CS, z = u_sC S5 ((sC S5) + (1 : Int32)) := ⟨_, rfl⟩
  refine hg_put (ci := 2) (ty := .int) (C := R_S) (T := F_S) (N := 3) hx hb hts (fun w h => gm (i_S w h)) t_S t_S_ok n_S hown hK G 5 rfl rfl 2 (by decide) (hts _ (gm tw_31)) rfl (by decide +kernel) rfl rfl (Nat.le_of_ble_eq_true rfl) d_S_add_IIJJJ_75 (cW ad cJ cI S6) (by rw [e6]; rfl) (fun H locs G => ?_)
  refine lv_aload_n hx hb d_S_add_IIJJJ_78 rfl (lv_at hl 0 rfl) ?_
  refine va_get (D := (dC, dI)) (ci := 2) (v := .int (sC S6)) (C := R_S) (T := F_S) (N := 3) hx hb hts (fun w h => gm (i_S w h)) hown hK G.1 5 rfl rfl 2 (by decide) (hts _ (gm tw_31)) (fun _ h9 => h9) rfl d_S_add_IIJJJ_79 ?_
  refine lv_iconst (v := 1) hx hb d_S_add_IIJJJ_82 (by decide) ?_
  refine lv_isub hx hb d_S_add_IIJJJ_83 ?_
  exact hg_iret hx hb hr hlocks hK hAe G (by have qe1 := e1.symm; have qe2 := e2.symm; have qe3 := e3.symm; have qe4 := e4.symm; have qe5 := e5.symm; have qe6 := e6.symm; subst qe1 qe2 qe3 qe4 qe5 qe6; exact ⟨rfl, rfl⟩) d_S_add_IIJJJ_84
