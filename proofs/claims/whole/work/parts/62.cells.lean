-- ===== MotionLab.spring(IIIII)I 
abbrev y_L_spring_IIIII : MethodName := ⟨"MotionLab", "spring", "(IIIII)I"⟩
abbrev b_L_spring_IIIII : ByteArray := prog_1_method_4_code
theorem d_L_spring_IIIII_0 : decode b_L_spring_IIIII 0 = .ok (.iload_n 1, 1) := by decide +kernel
theorem d_L_spring_IIIII_1 : decode b_L_spring_IIIII 1 = .ok (.invokestatic 20, 3) := by decide +kernel
theorem d_L_spring_IIIII_4 : decode b_L_spring_IIIII 4 = .ok (.ifCond .eq 15, 3) := by decide +kernel
theorem d_L_spring_IIIII_7 : decode b_L_spring_IIIII 7 = .ok (.iload_n 2, 1) := by decide +kernel
theorem d_L_spring_IIIII_8 : decode b_L_spring_IIIII 8 = .ok (.invokestatic 20, 3) := by decide +kernel
theorem d_L_spring_IIIII_11 : decode b_L_spring_IIIII 11 = .ok (.ifCond .eq 8, 3) := by decide +kernel
theorem d_L_spring_IIIII_14 : decode b_L_spring_IIIII 14 = .ok (.iload_n 1, 1) := by decide +kernel
theorem d_L_spring_IIIII_15 : decode b_L_spring_IIIII 15 = .ok (.iload_n 2, 1) := by decide +kernel
theorem d_L_spring_IIIII_16 : decode b_L_spring_IIIII 16 = .ok (.if_icmp .ne 5, 3) := by decide +kernel
theorem d_L_spring_IIIII_19 : decode b_L_spring_IIIII 19 = .ok (.iconst (-1), 1) := by decide +kernel
theorem d_L_spring_IIIII_20 : decode b_L_spring_IIIII 20 = .ok (.ireturn, 1) := by decide +kernel
theorem d_L_spring_IIIII_21 : decode b_L_spring_IIIII 21 = .ok (.aload_n 0, 1) := by decide +kernel
theorem d_L_spring_IIIII_22 : decode b_L_spring_IIIII 22 = .ok (.getfield 10, 3) := by decide +kernel
theorem d_L_spring_IIIII_25 : decode b_L_spring_IIIII 25 = .ok (.getfield 38, 3) := by decide +kernel
theorem d_L_spring_IIIII_28 : decode b_L_spring_IIIII 28 = .ok (.invokevirtual 42, 3) := by decide +kernel
theorem d_L_spring_IIIII_31 : decode b_L_spring_IIIII 31 = .ok (.ifCond .eq 6, 3) := by decide +kernel
theorem d_L_spring_IIIII_34 : decode b_L_spring_IIIII 34 = .ok (.bipush (-3), 2) := by decide +kernel
theorem d_L_spring_IIIII_36 : decode b_L_spring_IIIII 36 = .ok (.ireturn, 1) := by decide +kernel
theorem d_L_spring_IIIII_37 : decode b_L_spring_IIIII 37 = .ok (.aload_n 0, 1) := by decide +kernel
theorem d_L_spring_IIIII_38 : decode b_L_spring_IIIII 38 = .ok (.getfield 10, 3) := by decide +kernel
theorem d_L_spring_IIIII_41 : decode b_L_spring_IIIII 41 = .ok (.getfield 38, 3) := by decide +kernel
theorem d_L_spring_IIIII_44 : decode b_L_spring_IIIII 44 = .ok (.iload_n 1, 1) := by decide +kernel
theorem d_L_spring_IIIII_45 : decode b_L_spring_IIIII 45 = .ok (.iload_n 2, 1) := by decide +kernel
theorem d_L_spring_IIIII_46 : decode b_L_spring_IIIII 46 = .ok (.iload_n 3, 1) := by decide +kernel
theorem d_L_spring_IIIII_47 : decode b_L_spring_IIIII 47 = .ok (.invokestatic 48, 3) := by decide +kernel
theorem d_L_spring_IIIII_50 : decode b_L_spring_IIIII 50 = .ok (.iload 4, 2) := by decide +kernel
theorem d_L_spring_IIIII_52 : decode b_L_spring_IIIII 52 = .ok (.invokestatic 48, 3) := by decide +kernel
theorem d_L_spring_IIIII_55 : decode b_L_spring_IIIII 55 = .ok (.iload 5, 2) := by decide +kernel
theorem d_L_spring_IIIII_57 : decode b_L_spring_IIIII 57 = .ok (.invokestatic 48, 3) := by decide +kernel
theorem d_L_spring_IIIII_60 : decode b_L_spring_IIIII 60 = .ok (.invokevirtual 54, 3) := by decide +kernel
theorem d_L_spring_IIIII_63 : decode b_L_spring_IIIII 63 = .ok (.ireturn, 1) := by decide +kernel
def f_L_spring_IIIII (S : CS) (x1 : Int32) (x2 : Int32) (x3 : Int32) (x4 : Int32) (x5 : Int32) : Int32 × CS :=
  if (f_P_isBody_I x1) = 0 then
    ((-1 : Int32), S)
  else
    if (f_P_isBody_I x2) = 0 then
      ((-1 : Int32), S)
    else
      if x1 = x2 then
        ((-1 : Int32), S)
      else
        if (f_S_isFull S) = 0 then
          let S5 : CS := (f_S_add_IIJJJ S x1 x2 (f_I_ofFloatBits_I x3) (f_I_ofFloatBits_I x4) (f_I_ofFloatBits_I x5)).2
          ((f_S_add_IIJJJ S x1 x2 (f_I_ofFloatBits_I x3) (f_I_ofFloatBits_I x4) (f_I_ofFloatBits_I x5)).1, S5)
        else
          ((-3 : Int32), S)
set_option maxHeartbeats 4000000 in
set_option maxRecDepth 100000 in
theorem c_L_spring_IIIII (l : Launch) (dC : Nat → ClassId) (dI : Nat → Nat → Nat) (ad : Nat → Nat) (cJ cI : ClassId) (S : CS) (x1 : Int32) (x2 : Int32) (x3 : Int32) (x4 : Int32) (x5 : Int32) (hC0 : vp_in (sC S) 11) (sz : Nat) : hMi l y_L_spring_IIIII (gw y_L_spring_IIIII b_L_spring_IIIII 6 (some .int)) { frames := 4, cells := 0, slots := 0, locals := 94 } [.ref (ad 0), .int x1, .int x2, .int x3, .int x4, .int x5] (dC, dI) classes (tysJI cJ cI) (fun _ => True) (cW ad cJ cI S) sz (f_L_spring_IIIII S x1 x2 x3 x4 x5).1 (cW ad cJ cI (f_L_spring_IIIII S x1 x2 x3 x4 x5).2) := by
  refine Met.ofW (cc := b_L_spring_IIIII) (maxL := 6) (ret := (some .int)) (by decide) rfl ?_
  intro p e s m args below meth c s₁ B hml hv
  obtain ⟨rfl, hsz, hP, hK, hD0, hRT⟩ := hv
  have hx := B.exec
  have hb := B.bytes
  have hr := B.returns
  have hts := atoms_spec (ws := (gw y_L_spring_IIIII b_L_spring_IIIII 6 (some .int))) B.pre
  have hown : s.vm.findClass "MotionLab" = some m.cls := findClass_of_methodNamed B.named
  have hlocks := B.notSynchronized
  subst hsz
  have hD := hD0.self (sz := s.heap.size)
  generalize hAe : va_A (cW ad cJ cI S) s.heap.size = A at hD
  have hA : ∀ q : Nat, s.heap.size ≤ q → A q := fun q h => by rw [← hAe]; exact Or.inr h
  have G : hG (dC, dI) classes A s.heap (cW ad cJ cI S) s.heap [] := ⟨hP, hD, va_S.rf⟩
  have hl := lv_entry ([.ref (ad 0), .int x1, .int x2, .int x3, .int x4, .int x5]) (n := 6) (Nat.le_of_ble_eq_true rfl)
  rw [lg_entry_eq]
  generalize (lg_sl ([.ref (ad 0), .int x1, .int x2, .int x3, .int x4, .int x5]) ++ List.replicate (6 - (lg_sl ([.ref (ad 0), .int x1, .int x2, .int x3, .int x4, .int x5])).length) Slot.unset).toArray = ls at hl ⊢
  have hl : lv_has ls 6 [(0, .ref (ad 0)), (1, .int x1), (2, .int x2), (3, .int x3), (4, .int x4), (5, .int x5)] := hl
  refine lv_iload_n hx hb d_L_spring_IIIII_0 rfl (lv_at hl 1 rfl) ?_
  refine pu_i (As := [.int x1]) (rest := []) ⟨hx, hb, hml, hown, hts⟩ (c_P_isBody_I l _ x1) pu_pre (gw_call (k := 1) hts tw_68 tw_69 tw_2 tw_70 (by decide +kernel) rfl rfl ⟨Nat.le_of_ble_eq_true rfl, Nat.le_of_ble_eq_true rfl⟩) rfl hl.1 rfl (Nat.le_of_ble_eq_true rfl) ⟨Nat.zero_le _, Nat.zero_le _⟩ d_L_spring_IIIII_1 ?_
  refine lv_if_eq (tgt := 19) hx hb d_L_spring_IIIII_4 (by decide) (fun c1 => ?_) (fun c1 => ?_)
  · refine lv_iconst (v := (-1)) hx hb d_L_spring_IIIII_19 (by decide) ?_
    exact hg_iret hx hb hr hlocks hK hAe G (by have e9 : f_L_spring_IIIII S x1 x2 x3 x4 x5 = _ := (if_pos c1); exact ⟨Eq.symm (congrArg Prod.fst e9), Eq.symm (congrArg (fun z => cW ad cJ cI z.2) e9)⟩) d_L_spring_IIIII_20
  · refine lv_iload_n hx hb d_L_spring_IIIII_7 rfl (lv_at hl 2 rfl) ?_
    refine pu_i (As := [.int x2]) (rest := []) ⟨hx, hb, hml, hown, hts⟩ (c_P_isBody_I l _ x2) pu_pre (gw_call (k := 1) hts tw_68 tw_69 tw_2 tw_70 (by decide +kernel) rfl rfl ⟨Nat.le_of_ble_eq_true rfl, Nat.le_of_ble_eq_true rfl⟩) rfl hl.1 rfl (Nat.le_of_ble_eq_true rfl) ⟨Nat.zero_le _, Nat.zero_le _⟩ d_L_spring_IIIII_8 ?_
    refine lv_if_eq (tgt := 19) hx hb d_L_spring_IIIII_11 (by decide) (fun c2 => ?_) (fun c2 => ?_)
    · refine lv_iconst (v := (-1)) hx hb d_L_spring_IIIII_19 (by decide) ?_
      exact hg_iret hx hb hr hlocks hK hAe G (by have e9 : f_L_spring_IIIII S x1 x2 x3 x4 x5 = _ := (Eq.trans (if_neg c1) (if_pos c2)); exact ⟨Eq.symm (congrArg Prod.fst e9), Eq.symm (congrArg (fun z => cW ad cJ cI z.2) e9)⟩) d_L_spring_IIIII_20
    · refine lv_iload_n hx hb d_L_spring_IIIII_14 rfl (lv_at hl 1 rfl) ?_
      refine lv_iload_n hx hb d_L_spring_IIIII_15 rfl (lv_at hl 2 rfl) ?_
      refine lv_icmp_ne (tgt := 21) hx hb d_L_spring_IIIII_16 (by decide) (fun c3 => ?_) (fun c3 => ?_)
      · refine lv_aload_n hx hb d_L_spring_IIIII_21 rfl (lv_at hl 0 rfl) ?_
        refine va_get (D := (dC, dI)) (ci := 0) (v := .ref (ad 1)) (C := R_L) (T := F_L) (N := 2) hx hb hts (fun w h => gm (i_L w h)) hown hK G.1 0 rfl rfl 0 (by decide) (hts _ (gm tw_57)) (fun _ h9 => h9) rfl d_L_spring_IIIII_22 ?_
        refine va_get (D := (dC, dI)) (ci := 1) (v := .ref (ad 5)) (C := R_P) (T := F_P) (N := 3) hx hb hts (fun w h => gm (i_P w h)) hown hK G.1 1 rfl rfl 2 (by decide) (hts _ (gm tw_49)) (fun _ h9 => h9) rfl d_L_spring_IIIII_25 ?_
        refine hg_ci (As := []) (rest := []) ⟨hx, hb, hml, hown, hts⟩ (c_S_isFull l dC dI ad cJ cI S _) (gw_callV (k := 0) hts tw_138 tw_139 tw_140 tw_3 tw_141 (by decide +kernel) rfl rfl ⟨Nat.le_of_ble_eq_true rfl, Nat.le_of_ble_eq_true rfl⟩) hK G hA (hx_T _ _) 2 5 rfl rfl rfl hl.1 rfl (Nat.le_of_ble_eq_true rfl) ⟨Nat.zero_le _, Nat.zero_le _⟩ d_L_spring_IIIII_28 (fun H locs G => ?_)
        refine lv_if_eq (tgt := 37) hx hb d_L_spring_IIIII_31 (by decide) (fun c4 => ?_) (fun c4 => ?_)
        · refine lv_aload_n hx hb d_L_spring_IIIII_37 rfl (lv_at hl 0 rfl) ?_
          refine va_get (D := (dC, dI)) (ci := 0) (v := .ref (ad 1)) (C := R_L) (T := F_L) (N := 2) hx hb hts (fun w h => gm (i_L w h)) hown hK G.1 0 rfl rfl 0 (by decide) (hts _ (gm tw_57)) (fun _ h9 => h9) rfl d_L_spring_IIIII_38 ?_
          refine va_get (D := (dC, dI)) (ci := 1) (v := .ref (ad 5)) (C := R_P) (T := F_P) (N := 3) hx hb hts (fun w h => gm (i_P w h)) hown hK G.1 1 rfl rfl 2 (by decide) (hts _ (gm tw_49)) (fun _ h9 => h9) rfl d_L_spring_IIIII_41 ?_
          refine lv_iload_n hx hb d_L_spring_IIIII_44 rfl (lv_at hl 1 rfl) ?_
          refine lv_iload_n hx hb d_L_spring_IIIII_45 rfl (lv_at hl 2 rfl) ?_
          refine lv_iload_n hx hb d_L_spring_IIIII_46 rfl (lv_at hl 3 rfl) ?_
          refine pu_l (As := [.int x3]) (rest := [.int x2, .int x1, .ref (ad 5)]) ⟨hx, hb, hml, hown, hts⟩ (c_I_ofFloatBits_I l _ x3) pu_pre (gw_call (k := 1) hts tw_142 tw_143 tw_5 tw_144 (by decide +kernel) rfl rfl ⟨Nat.le_of_ble_eq_true rfl, Nat.le_of_ble_eq_true rfl⟩) rfl hl.1 rfl (Nat.le_of_ble_eq_true rfl) ⟨Nat.zero_le _, Nat.zero_le _⟩ d_L_spring_IIIII_47 ?_
          refine lv_iload hx hb d_L_spring_IIIII_50 (lv_at hl 4 rfl) ?_
          refine pu_l (As := [.int x4]) (rest := [.long (f_I_ofFloatBits_I x3), .int x2, .int x1, .ref (ad 5)]) ⟨hx, hb, hml, hown, hts⟩ (c_I_ofFloatBits_I l _ x4) pu_pre (gw_call (k := 1) hts tw_142 tw_143 tw_5 tw_144 (by decide +kernel) rfl rfl ⟨Nat.le_of_ble_eq_true rfl, Nat.le_of_ble_eq_true rfl⟩) rfl hl.1 rfl (Nat.le_of_ble_eq_true rfl) ⟨Nat.zero_le _, Nat.zero_le _⟩ d_L_spring_IIIII_52 ?_
          refine lv_iload hx hb d_L_spring_IIIII_55 (lv_at hl 5 rfl) ?_
          refine pu_l (As := [.int x5]) (rest := [.long (f_I_ofFloatBits_I x4), .long (f_I_ofFloatBits_I x3), .int x2, .int x1, .ref (ad 5)]) ⟨hx, hb, hml, hown, hts⟩ (c_I_ofFloatBits_I l _ x5) pu_pre (gw_call (k := 1) hts tw_142 tw_143 tw_5 tw_144 (by decide +kernel) rfl rfl ⟨Nat.le_of_ble_eq_true rfl, Nat.le_of_ble_eq_true rfl⟩) rfl hl.1 rfl (Nat.le_of_ble_eq_true rfl) ⟨Nat.zero_le _, Nat.zero_le _⟩ d_L_spring_IIIII_57 ?_
          obtain ⟨S5, e5⟩ : ∃ z : CS, z = (f_S_add_IIJJJ S x1 x2 (f_I_ofFloatBits_I x3) (f_I_ofFloatBits_I x4) (f_I_ofFloatBits_I x5)).2 := ⟨_, rfl⟩
          refine hg_ci (As := [.int x1, .int x2, .long (f_I_ofFloatBits_I x3), .long (f_I_ofFloatBits_I x4), .long (f_I_ofFloatBits_I x5)]) (rest := []) ⟨hx, hb, hml, hown, hts⟩ (c_S_add_IIJJJ l dC dI ad cJ cI S x1 x2 (f_I_ofFloatBits_I x3) (f_I_ofFloatBits_I x4) (f_I_ofFloatBits_I x5) (spring_room hC0 c4) _) (gw_callV (k := 5) hts tw_150 tw_151 tw_152 tw_3 tw_153 (by decide +kernel) rfl rfl ⟨Nat.le_of_ble_eq_true rfl, Nat.le_of_ble_eq_true rfl⟩) hK G hA (hx_T _ _) 2 5 rfl rfl rfl hl.1 rfl (Nat.le_of_ble_eq_true rfl) ⟨Nat.zero_le _, Nat.zero_le _⟩ d_L_spring_IIIII_60 (fun H locs G => ?_)
          rw [← e5] at G
          exact hg_iret hx hb hr hlocks hK hAe G (by have qe5 := e5.symm; subst qe5; have e9 : f_L_spring_IIIII S x1 x2 x3 x4 x5 = _ := (Eq.trans (if_neg c1) (Eq.trans (if_neg c2) (Eq.trans (if_neg c3) (if_pos c4)))); exact ⟨Eq.symm (congrArg Prod.fst e9), Eq.symm (congrArg (fun z => cW ad cJ cI z.2) e9)⟩) d_L_spring_IIIII_63
        · refine lv_bipush (v := (-3 : Int32)) hx hb d_L_spring_IIIII_34 (by decide) ?_
          exact hg_iret hx hb hr hlocks hK hAe G (by have e9 : f_L_spring_IIIII S x1 x2 x3 x4 x5 = _ := (Eq.trans (if_neg c1) (Eq.trans (if_neg c2) (Eq.trans (if_neg c3) (if_neg c4)))); exact ⟨Eq.symm (congrArg Prod.fst e9), Eq.symm (congrArg (fun z => cW ad cJ cI z.2) e9)⟩) d_L_spring_IIIII_36
      · refine lv_iconst (v := (-1)) hx hb d_L_spring_IIIII_19 (by decide) ?_
        exact hg_iret hx hb hr hlocks hK hAe G (by have e9 : f_L_spring_IIIII S x1 x2 x3 x4 x5 = _ := (Eq.trans (if_neg c1) (Eq.trans (if_neg c2) (if_pos c3))); exact ⟨Eq.symm (congrArg Prod.fst e9), Eq.symm (congrArg (fun z => cW ad cJ cI z.2) e9)⟩) d_L_spring_IIIII_20
-- ===== MotionLab$Springs.removeLatest()I 
abbrev y_S_removeLatest : MethodName := ⟨"MotionLab$Springs", "removeLatest", "()I"⟩
abbrev b_S_removeLatest : ByteArray := prog_4_method_4_code
theorem d_S_removeLatest_0 : decode b_S_removeLatest 0 = .ok (.aload_n 0, 1) := by decide +kernel
theorem d_S_removeLatest_1 : decode b_S_removeLatest 1 = .ok (.dup, 1) := by decide +kernel
theorem d_S_removeLatest_2 : decode b_S_removeLatest 2 = .ok (.getfield 17, 3) := by decide +kernel
theorem d_S_removeLatest_5 : decode b_S_removeLatest 5 = .ok (.iconst 1, 1) := by decide +kernel
theorem d_S_removeLatest_6 : decode b_S_removeLatest 6 = .ok (.isub, 1) := by decide +kernel
theorem d_S_removeLatest_7 : decode b_S_removeLatest 7 = .ok (.putfield 17, 3) := by decide +kernel
theorem d_S_removeLatest_10 : decode b_S_removeLatest 10 = .ok (.aload_n 0, 1) := by decide +kernel
theorem d_S_removeLatest_11 : decode b_S_removeLatest 11 = .ok (.getfield 17, 3) := by decide +kernel
theorem d_S_removeLatest_14 : decode b_S_removeLatest 14 = .ok (.ireturn, 1) := by decide +kernel
def f_S_removeLatest (S : CS) : Int32 × CS :=
  let S1 : CS := u_sC S ((sC S) - (1 : Int32))
  ((sC S1), S1)
set_option maxHeartbeats 4000000 in
set_option maxRecDepth 100000 in
theorem c_S_removeLatest (l : Launch) (dC : Nat → ClassId) (dI : Nat → Nat → Nat) (ad : Nat → Nat) (cJ cI : ClassId) (S : CS)  (sz : Nat) : hMi l y_S_removeLatest (gw y_S_removeLatest b_S_removeLatest 1 (some .int)) { frames := 0, cells := 0, slots := 0, locals := 0 } [.ref (ad 5)] (dC, dI) classes (tysJI cJ cI) (fun _ => True) (cW ad cJ cI S) sz (f_S_removeLatest S).1 (cW ad cJ cI (f_S_removeLatest S).2) := by
  refine Met.ofW (cc := b_S_removeLatest) (maxL := 1) (ret := (some .int)) (by decide) rfl ?_
  intro p e s m args below meth c s₁ B hml hv
  obtain ⟨rfl, hsz, hP, hK, hD0, hRT⟩ := hv
  have hx := B.exec
  have hb := B.bytes
  have hr := B.returns
  have hts := atoms_spec (ws := (gw y_S_removeLatest b_S_removeLatest 1 (some .int))) B.pre
  have hown : s.vm.findClass "MotionLab$Springs" = some m.cls := findClass_of_methodNamed B.named
  have hlocks := B.notSynchronized
  subst hsz
  have hD := hD0.self (sz := s.heap.size)
  generalize hAe : va_A (cW ad cJ cI S) s.heap.size = A at hD
  have hA : ∀ q : Nat, s.heap.size ≤ q → A q := fun q h => by rw [← hAe]; exact Or.inr h
  have G : hG (dC, dI) classes A s.heap (cW ad cJ cI S) s.heap [] := ⟨hP, hD, va_S.rf⟩
  have hl := lv_entry ([.ref (ad 5)]) (n := 1) (Nat.le_of_ble_eq_true rfl)
  rw [lg_entry_eq]
  generalize (lg_sl ([.ref (ad 5)]) ++ List.replicate (1 - (lg_sl ([.ref (ad 5)])).length) Slot.unset).toArray = ls at hl ⊢
  have hl : lv_has ls 1 [(0, .ref (ad 5))] := hl
  refine lv_aload_n hx hb d_S_removeLatest_0 rfl (lv_at hl 0 rfl) ?_
  refine lv_dup hx hb d_S_removeLatest_1 rfl ?_
  refine va_get (D := (dC, dI)) (ci := 2) (v := .int (sC S)) (C := R_S) (T := F_S) (N := 3) hx hb hts (fun w h => gm (i_S w h)) hown hK G.1 5 rfl rfl 2 (by decide) (hts _ (gm tw_31)) (fun _ h9 => h9) rfl d_S_removeLatest_2 ?_
  refine lv_iconst (v := 1) hx hb d_S_removeLatest_5 (by decide) ?_
  refine lv_isub hx hb d_S_removeLatest_6 ?_
  obtain ⟨S1, e1⟩ : ∃ z : CS, z = u_sC S ((sC S) - (1 : Int32)) := ⟨_, rfl⟩
  refine hg_put (ci := 2) (ty := .int) (C := R_S) (T := F_S) (N := 3) hx hb hts (fun w h => gm (i_S w h)) t_S t_S_ok n_S hown hK G 5 rfl rfl 2 (by decide) (hts _ (gm tw_31)) rfl (by decide +kernel) rfl rfl (Nat.le_of_ble_eq_true rfl) d_S_removeLatest_7 (cW ad cJ cI S1) (by rw [e1]; rfl) (fun H locs G => ?_)
  refine lv_aload_n hx hb d_S_removeLatest_10 rfl (lv_at hl 0 rfl) ?_
  refine va_get (D := (dC, dI)) (ci := 2) (v := .int (sC S1)) (C := R_S) (T := F_S) (N := 3) hx hb hts (fun w h => gm (i_S w h)) hown hK G.1 5 rfl rfl 2 (by decide) (hts _ (gm tw_31)) (fun _ h9 => h9) rfl d_S_removeLatest_11 ?_
  exact hg_iret hx hb hr hlocks hK hAe G (by have qe1 := e1.symm; subst qe1; exact ⟨rfl, rfl⟩) d_S_removeLatest_14
-- ===== MotionLab.cut()I 
abbrev y_L_cut : MethodName := ⟨"MotionLab", "cut", "()I"⟩
abbrev b_L_cut : ByteArray := prog_1_method_5_code
theorem d_L_cut_0 : decode b_L_cut 0 = .ok (.aload_n 0, 1) := by decide +kernel
theorem d_L_cut_1 : decode b_L_cut 1 = .ok (.getfield 10, 3) := by decide +kernel
theorem d_L_cut_4 : decode b_L_cut 4 = .ok (.getfield 38, 3) := by decide +kernel
theorem d_L_cut_7 : decode b_L_cut 7 = .ok (.getfield 58, 3) := by decide +kernel
theorem d_L_cut_10 : decode b_L_cut 10 = .ok (.ifCond .ne 8, 3) := by decide +kernel
theorem d_L_cut_13 : decode b_L_cut 13 = .ok (.bipush (-2), 2) := by decide +kernel
theorem d_L_cut_15 : decode b_L_cut 15 = .ok (.goto 13, 3) := by decide +kernel
theorem d_L_cut_18 : decode b_L_cut 18 = .ok (.aload_n 0, 1) := by decide +kernel
theorem d_L_cut_19 : decode b_L_cut 19 = .ok (.getfield 10, 3) := by decide +kernel
theorem d_L_cut_22 : decode b_L_cut 22 = .ok (.getfield 38, 3) := by decide +kernel
theorem d_L_cut_25 : decode b_L_cut 25 = .ok (.invokevirtual 62, 3) := by decide +kernel
theorem d_L_cut_28 : decode b_L_cut 28 = .ok (.ireturn, 1) := by decide +kernel
def f_L_cut (S : CS) : Int32 × CS :=
  if (sC S) = 0 then
    ((-2 : Int32), S)
  else
    let S2 : CS := (f_S_removeLatest S).2
    ((f_S_removeLatest S).1, S2)
set_option maxHeartbeats 4000000 in
set_option maxRecDepth 100000 in
theorem c_L_cut (l : Launch) (dC : Nat → ClassId) (dI : Nat → Nat → Nat) (ad : Nat → Nat) (cJ cI : ClassId) (S : CS)  (sz : Nat) : hMi l y_L_cut (gw y_L_cut b_L_cut 1 (some .int)) { frames := 1, cells := 0, slots := 0, locals := 20 } [.ref (ad 0)] (dC, dI) classes (tysJI cJ cI) (fun _ => True) (cW ad cJ cI S) sz (f_L_cut S).1 (cW ad cJ cI (f_L_cut S).2) := by
  refine Met.ofW (cc := b_L_cut) (maxL := 1) (ret := (some .int)) (by decide) rfl ?_
  intro p e s m args below meth c s₁ B hml hv
  obtain ⟨rfl, hsz, hP, hK, hD0, hRT⟩ := hv
  have hx := B.exec
  have hb := B.bytes
  have hr := B.returns
  have hts := atoms_spec (ws := (gw y_L_cut b_L_cut 1 (some .int))) B.pre
  have hown : s.vm.findClass "MotionLab" = some m.cls := findClass_of_methodNamed B.named
  have hlocks := B.notSynchronized
  subst hsz
  have hD := hD0.self (sz := s.heap.size)
  generalize hAe : va_A (cW ad cJ cI S) s.heap.size = A at hD
  have hA : ∀ q : Nat, s.heap.size ≤ q → A q := fun q h => by rw [← hAe]; exact Or.inr h
  have G : hG (dC, dI) classes A s.heap (cW ad cJ cI S) s.heap [] := ⟨hP, hD, va_S.rf⟩
  have hl := lv_entry ([.ref (ad 0)]) (n := 1) (Nat.le_of_ble_eq_true rfl)
  rw [lg_entry_eq]
  generalize (lg_sl ([.ref (ad 0)]) ++ List.replicate (1 - (lg_sl ([.ref (ad 0)])).length) Slot.unset).toArray = ls at hl ⊢
  have hl : lv_has ls 1 [(0, .ref (ad 0))] := hl
  refine lv_aload_n hx hb d_L_cut_0 rfl (lv_at hl 0 rfl) ?_
  refine va_get (D := (dC, dI)) (ci := 0) (v := .ref (ad 1)) (C := R_L) (T := F_L) (N := 2) hx hb hts (fun w h => gm (i_L w h)) hown hK G.1 0 rfl rfl 0 (by decide) (hts _ (gm tw_57)) (fun _ h9 => h9) rfl d_L_cut_1 ?_
  refine va_get (D := (dC, dI)) (ci := 1) (v := .ref (ad 5)) (C := R_P) (T := F_P) (N := 3) hx hb hts (fun w h => gm (i_P w h)) hown hK G.1 1 rfl rfl 2 (by decide) (hts _ (gm tw_49)) (fun _ h9 => h9) rfl d_L_cut_4 ?_
  refine va_get (D := (dC, dI)) (ci := 2) (v := .int (sC S)) (C := R_S) (T := F_S) (N := 3) hx hb hts (fun w h => gm (i_S w h)) hown hK G.1 5 rfl rfl 2 (by decide) (hts _ (gm tw_32)) (fun _ h9 => h9) rfl d_L_cut_7 ?_
  refine lv_if_ne (tgt := 18) hx hb d_L_cut_10 (by decide) (fun c1 => ?_) (fun c1 => ?_)
  · refine lv_aload_n hx hb d_L_cut_18 rfl (lv_at hl 0 rfl) ?_
    refine va_get (D := (dC, dI)) (ci := 0) (v := .ref (ad 1)) (C := R_L) (T := F_L) (N := 2) hx hb hts (fun w h => gm (i_L w h)) hown hK G.1 0 rfl rfl 0 (by decide) (hts _ (gm tw_57)) (fun _ h9 => h9) rfl d_L_cut_19 ?_
    refine va_get (D := (dC, dI)) (ci := 1) (v := .ref (ad 5)) (C := R_P) (T := F_P) (N := 3) hx hb hts (fun w h => gm (i_P w h)) hown hK G.1 1 rfl rfl 2 (by decide) (hts _ (gm tw_49)) (fun _ h9 => h9) rfl d_L_cut_22 ?_
    obtain ⟨S2, e2⟩ : ∃ z : CS, z = (f_S_removeLatest S).2 := ⟨_, rfl⟩
    refine hg_ci (As := []) (rest := []) ⟨hx, hb, hml, hown, hts⟩ (c_S_removeLatest l dC dI ad cJ cI S _) (gw_callV (k := 0) hts tw_158 tw_159 tw_160 tw_3 tw_161 (by decide +kernel) rfl rfl ⟨Nat.le_of_ble_eq_true rfl, Nat.le_of_ble_eq_true rfl⟩) hK G hA (hx_T _ _) 2 5 rfl rfl rfl hl.1 rfl (Nat.le_of_ble_eq_true rfl) ⟨Nat.zero_le _, Nat.zero_le _⟩ d_L_cut_25 (fun H locs G => ?_)
    rw [← e2] at G
    exact hg_iret hx hb hr hlocks hK hAe G (by have qe2 := e2.symm; subst qe2; have e9 : f_L_cut S = _ := (if_neg c1); exact ⟨Eq.symm (congrArg Prod.fst e9), Eq.symm (congrArg (fun z => cW ad cJ cI z.2) e9)⟩) d_L_cut_28
  · refine lv_bipush (v := (-2 : Int32)) hx hb d_L_cut_13 (by decide) ?_
    refine lv_goto (tgt := 28) hx hb d_L_cut_15 (by decide) ?_
    exact hg_iret hx hb hr hlocks hK hAe G (by have e9 : f_L_cut S = _ := (if_pos c1); exact ⟨Eq.symm (congrArg Prod.fst e9), Eq.symm (congrArg (fun z => cW ad cJ cI z.2) e9)⟩) d_L_cut_28
-- ===== MotionLab$Plane.pullByField(I)V 
abbrev y_P_pullByField_I : MethodName := ⟨"MotionLab$Plane", "pullByField", "(I)V"⟩
abbrev b_P_pullByField_I : ByteArray := prog_3_method_12_code
theorem d_P_pullByField_I_0 : decode b_P_pullByField_I 0 = .ok (.aload_n 0, 1) := by decide +kernel
theorem d_P_pullByField_I_1 : decode b_P_pullByField_I 1 = .ok (.getfield 9, 3) := by decide +kernel
theorem d_P_pullByField_I_4 : decode b_P_pullByField_I 4 = .ok (.bipush 32, 2) := by decide +kernel
theorem d_P_pullByField_I_6 : decode b_P_pullByField_I 6 = .ok (.iload_n 1, 1) := by decide +kernel
theorem d_P_pullByField_I_7 : decode b_P_pullByField_I 7 = .ok (.iadd, 1) := by decide +kernel
theorem d_P_pullByField_I_8 : decode b_P_pullByField_I 8 = .ok (.laload, 1) := by decide +kernel
theorem d_P_pullByField_I_9 : decode b_P_pullByField_I 9 = .ok (.lstore_n 2, 1) := by decide +kernel
theorem d_P_pullByField_I_10 : decode b_P_pullByField_I 10 = .ok (.aload_n 0, 1) := by decide +kernel
theorem d_P_pullByField_I_11 : decode b_P_pullByField_I 11 = .ok (.getfield 13, 3) := by decide +kernel
theorem d_P_pullByField_I_14 : decode b_P_pullByField_I 14 = .ok (.iconst 2, 1) := by decide +kernel
theorem d_P_pullByField_I_15 : decode b_P_pullByField_I 15 = .ok (.laload, 1) := by decide +kernel
theorem d_P_pullByField_I_16 : decode b_P_pullByField_I 16 = .ok (.lstore 4, 2) := by decide +kernel
theorem d_P_pullByField_I_18 : decode b_P_pullByField_I 18 = .ok (.aload_n 0, 1) := by decide +kernel
theorem d_P_pullByField_I_19 : decode b_P_pullByField_I 19 = .ok (.getfield 9, 3) := by decide +kernel
theorem d_P_pullByField_I_22 : decode b_P_pullByField_I 22 = .ok (.bipush 48, 2) := by decide +kernel
theorem d_P_pullByField_I_24 : decode b_P_pullByField_I 24 = .ok (.iload_n 1, 1) := by decide +kernel
theorem d_P_pullByField_I_25 : decode b_P_pullByField_I 25 = .ok (.iadd, 1) := by decide +kernel
theorem d_P_pullByField_I_26 : decode b_P_pullByField_I 26 = .ok (.lload_n 2, 1) := by decide +kernel
theorem d_P_pullByField_I_27 : decode b_P_pullByField_I 27 = .ok (.aload_n 0, 1) := by decide +kernel
theorem d_P_pullByField_I_28 : decode b_P_pullByField_I 28 = .ok (.getfield 13, 3) := by decide +kernel
theorem d_P_pullByField_I_31 : decode b_P_pullByField_I 31 = .ok (.iconst 0, 1) := by decide +kernel
theorem d_P_pullByField_I_32 : decode b_P_pullByField_I 32 = .ok (.laload, 1) := by decide +kernel
theorem d_P_pullByField_I_33 : decode b_P_pullByField_I 33 = .ok (.invokestatic 86, 3) := by decide +kernel
theorem d_P_pullByField_I_36 : decode b_P_pullByField_I 36 = .ok (.lload 4, 2) := by decide +kernel
theorem d_P_pullByField_I_38 : decode b_P_pullByField_I 38 = .ok (.aload_n 0, 1) := by decide +kernel
theorem d_P_pullByField_I_39 : decode b_P_pullByField_I 39 = .ok (.getfield 9, 3) := by decide +kernel
theorem d_P_pullByField_I_42 : decode b_P_pullByField_I 42 = .ok (.bipush 16, 2) := by decide +kernel
theorem d_P_pullByField_I_44 : decode b_P_pullByField_I 44 = .ok (.iload_n 1, 1) := by decide +kernel
theorem d_P_pullByField_I_45 : decode b_P_pullByField_I 45 = .ok (.iadd, 1) := by decide +kernel
theorem d_P_pullByField_I_46 : decode b_P_pullByField_I 46 = .ok (.laload, 1) := by decide +kernel
theorem d_P_pullByField_I_47 : decode b_P_pullByField_I 47 = .ok (.invokestatic 86, 3) := by decide +kernel
theorem d_P_pullByField_I_50 : decode b_P_pullByField_I 50 = .ok (.invokestatic 70, 3) := by decide +kernel
theorem d_P_pullByField_I_53 : decode b_P_pullByField_I 53 = .ok (.lastore, 1) := by decide +kernel
theorem d_P_pullByField_I_54 : decode b_P_pullByField_I 54 = .ok (.aload_n 0, 1) := by decide +kernel
theorem d_P_pullByField_I_55 : decode b_P_pullByField_I 55 = .ok (.getfield 9, 3) := by decide +kernel
theorem d_P_pullByField_I_58 : decode b_P_pullByField_I 58 = .ok (.bipush 56, 2) := by decide +kernel
theorem d_P_pullByField_I_60 : decode b_P_pullByField_I 60 = .ok (.iload_n 1, 1) := by decide +kernel
theorem d_P_pullByField_I_61 : decode b_P_pullByField_I 61 = .ok (.iadd, 1) := by decide +kernel
theorem d_P_pullByField_I_62 : decode b_P_pullByField_I 62 = .ok (.lload_n 2, 1) := by decide +kernel
theorem d_P_pullByField_I_63 : decode b_P_pullByField_I 63 = .ok (.aload_n 0, 1) := by decide +kernel
theorem d_P_pullByField_I_64 : decode b_P_pullByField_I 64 = .ok (.getfield 13, 3) := by decide +kernel
theorem d_P_pullByField_I_67 : decode b_P_pullByField_I 67 = .ok (.iconst 1, 1) := by decide +kernel
theorem d_P_pullByField_I_68 : decode b_P_pullByField_I 68 = .ok (.laload, 1) := by decide +kernel
theorem d_P_pullByField_I_69 : decode b_P_pullByField_I 69 = .ok (.invokestatic 86, 3) := by decide +kernel
theorem d_P_pullByField_I_72 : decode b_P_pullByField_I 72 = .ok (.lload 4, 2) := by decide +kernel
theorem d_P_pullByField_I_74 : decode b_P_pullByField_I 74 = .ok (.aload_n 0, 1) := by decide +kernel
theorem d_P_pullByField_I_75 : decode b_P_pullByField_I 75 = .ok (.getfield 9, 3) := by decide +kernel
theorem d_P_pullByField_I_78 : decode b_P_pullByField_I 78 = .ok (.bipush 24, 2) := by decide +kernel
theorem d_P_pullByField_I_80 : decode b_P_pullByField_I 80 = .ok (.iload_n 1, 1) := by decide +kernel
theorem d_P_pullByField_I_81 : decode b_P_pullByField_I 81 = .ok (.iadd, 1) := by decide +kernel
theorem d_P_pullByField_I_82 : decode b_P_pullByField_I 82 = .ok (.laload, 1) := by decide +kernel
theorem d_P_pullByField_I_83 : decode b_P_pullByField_I 83 = .ok (.invokestatic 86, 3) := by decide +kernel
theorem d_P_pullByField_I_86 : decode b_P_pullByField_I 86 = .ok (.invokestatic 70, 3) := by decide +kernel
theorem d_P_pullByField_I_89 : decode b_P_pullByField_I 89 = .ok (.lastore, 1) := by decide +kernel
theorem d_P_pullByField_I_90 : decode b_P_pullByField_I 90 = .ok (.return_, 1) := by decide +kernel
def f_P_pullByField_I (S : CS) (x1 : Int32) : CS :=
  let v1 : Int64 := sR S ((32 : Int32) + x1).toNatClampNeg
  let v2 : Int64 := sF S (2 : Int32).toNatClampNeg
  let S3 : CS := u_sR S (vp_updL (sR S) ((48 : Int32) + x1).toNatClampNeg (f_I_difference_JJ (f_I_product_JJ v1 (sF S (0 : Int32).toNatClampNeg)) (f_I_product_JJ v2 (sR S ((16 : Int32) + x1).toNatClampNeg))))
  let S4 : CS := u_sR S3 (vp_updL (sR S3) ((56 : Int32) + x1).toNatClampNeg (f_I_difference_JJ (f_I_product_JJ v1 (sF S3 (1 : Int32).toNatClampNeg)) (f_I_product_JJ v2 (sR S3 ((24 : Int32) + x1).toNatClampNeg))))
  S4
set_option maxHeartbeats 4000000 in
set_option maxRecDepth 100000 in
theorem c_P_pullByField_I (l : Launch) (dC : Nat → ClassId) (dI : Nat → Nat → Nat) (ad : Nat → Nat) (cJ cI : ClassId) (S : CS) (x1 : Int32) (hk_x1 : vp_in x1 8) (sz : Nat) : hMv l y_P_pullByField_I (gw y_P_pullByField_I b_P_pullByField_I 6 none) { frames := 5, cells := 0, slots := 0, locals := 127 } [.ref (ad 1), .int x1] (dC, dI) classes (tysJI cJ cI) (fun _ => True) (cW ad cJ cI S) sz (cW ad cJ cI (f_P_pullByField_I S x1)) := by
  refine Met.ofW (cc := b_P_pullByField_I) (maxL := 6) (ret := none) (by decide) rfl ?_
  intro p e s m args below meth c s₁ B hml hv
  obtain ⟨rfl, hsz, hP, hK, hD0, hRT⟩ := hv
  have hx := B.exec
  have hb := B.bytes
  have hr := B.returns
  have hts := atoms_spec (ws := (gw y_P_pullByField_I b_P_pullByField_I 6 none)) B.pre
  have hown : s.vm.findClass "MotionLab$Plane" = some m.cls := findClass_of_methodNamed B.named
  have hlocks := B.notSynchronized
  subst hsz
  have hD := hD0.self (sz := s.heap.size)
  generalize hAe : va_A (cW ad cJ cI S) s.heap.size = A at hD
  have hA : ∀ q : Nat, s.heap.size ≤ q → A q := fun q h => by rw [← hAe]; exact Or.inr h
  have G : hG (dC, dI) classes A s.heap (cW ad cJ cI S) s.heap [] := ⟨hP, hD, va_S.rf⟩
  have hl := lv_entry ([.ref (ad 1), .int x1]) (n := 6) (Nat.le_of_ble_eq_true rfl)
  rw [lg_entry_eq]
  generalize (lg_sl ([.ref (ad 1), .int x1]) ++ List.replicate (6 - (lg_sl ([.ref (ad 1), .int x1])).length) Slot.unset).toArray = ls at hl ⊢
  have hl : lv_has ls 6 [(0, .ref (ad 1)), (1, .int x1)] := hl
  refine lv_aload_n hx hb d_P_pullByField_I_0 rfl (lv_at hl 0 rfl) ?_
  refine va_get (D := (dC, dI)) (ci := 1) (v := .ref (ad 3)) (C := R_P) (T := F_P) (N := 3) hx hb hts (fun w h => gm (i_P w h)) hown hK G.1 1 rfl rfl 0 (by decide) (hts _ (gm tw_46)) (fun _ h9 => h9) rfl d_P_pullByField_I_1 ?_
  refine lv_bipush (v := (32 : Int32)) hx hb d_P_pullByField_I_4 (by decide) ?_
  refine lv_iload_n hx hb d_P_pullByField_I_6 rfl (lv_at hl 1 rfl) ?_
  refine lv_iadd hx hb d_P_pullByField_I_7 ?_
  refine va_lald hx hb hK G.1 3 0 rfl rfl (in_al hk_x1 (by decide)) d_P_pullByField_I_8 ?_
  refine lv_topl (fun v1 e1 => ?_)
  refine lv_lstore_n (lv' := [(2, .long v1), (0, .ref (ad 1)), (1, .int x1)]) hx hb d_P_pullByField_I_9 rfl hl (by decide) rfl (fun ls hl => ?_)
  refine lv_aload_n hx hb d_P_pullByField_I_10 rfl (lv_at hl 1 rfl) ?_
  refine va_get (D := (dC, dI)) (ci := 1) (v := .ref (ad 4)) (C := R_P) (T := F_P) (N := 3) hx hb hts (fun w h => gm (i_P w h)) hown hK G.1 1 rfl rfl 1 (by decide) (hts _ (gm tw_47)) (fun _ h9 => h9) rfl d_P_pullByField_I_11 ?_
  refine lv_iconst (v := 2) hx hb d_P_pullByField_I_14 (by decide) ?_
  refine va_lald hx hb hK G.1 4 0 rfl rfl (in_of (by decide) (by decide)) d_P_pullByField_I_15 ?_
  refine lv_topl (fun v2 e2 => ?_)
  refine lv_lstore (lv' := [(4, .long v2), (2, .long v1), (0, .ref (ad 1)), (1, .int x1)]) hx hb d_P_pullByField_I_16 hl (by decide) rfl (fun ls hl => ?_)
  refine lv_aload_n hx hb d_P_pullByField_I_18 rfl (lv_at hl 2 rfl) ?_
  refine va_get (D := (dC, dI)) (ci := 1) (v := .ref (ad 3)) (C := R_P) (T := F_P) (N := 3) hx hb hts (fun w h => gm (i_P w h)) hown hK G.1 1 rfl rfl 0 (by decide) (hts _ (gm tw_46)) (fun _ h9 => h9) rfl d_P_pullByField_I_19 ?_
  refine lv_bipush (v := (48 : Int32)) hx hb d_P_pullByField_I_22 (by decide) ?_
  refine lv_iload_n hx hb d_P_pullByField_I_24 rfl (lv_at hl 3 rfl) ?_
  refine lv_iadd hx hb d_P_pullByField_I_25 ?_
  refine lv_lload_n hx hb d_P_pullByField_I_26 rfl (lv_at hl 1 rfl) ?_
  refine lv_aload_n hx hb d_P_pullByField_I_27 rfl (lv_at hl 2 rfl) ?_
  refine va_get (D := (dC, dI)) (ci := 1) (v := .ref (ad 4)) (C := R_P) (T := F_P) (N := 3) hx hb hts (fun w h => gm (i_P w h)) hown hK G.1 1 rfl rfl 1 (by decide) (hts _ (gm tw_47)) (fun _ h9 => h9) rfl d_P_pullByField_I_28 ?_
  refine lv_iconst (v := 0) hx hb d_P_pullByField_I_31 (by decide) ?_
  refine va_lald hx hb hK G.1 4 0 rfl rfl (in_of (by decide) (by decide)) d_P_pullByField_I_32 ?_
  refine pu_l (As := [.long v1, .long (sF S (0 : Int32).toNatClampNeg)]) (rest := [.int ((48 : Int32) + x1), .ref (ad 3)]) ⟨hx, hb, hml, hown, hts⟩ (c_I_product_JJ l _ v1 (sF S (0 : Int32).toNatClampNeg)) pu_pre (gw_call (k := 2) hts tw_174 tw_175 tw_5 tw_176 (by decide +kernel) rfl rfl ⟨Nat.le_of_ble_eq_true rfl, Nat.le_of_ble_eq_true rfl⟩) rfl hl.1 rfl (Nat.le_of_ble_eq_true rfl) ⟨Nat.zero_le _, Nat.zero_le _⟩ d_P_pullByField_I_33 ?_
  refine lv_lload hx hb d_P_pullByField_I_36 (lv_at hl 0 rfl) ?_
  refine lv_aload_n hx hb d_P_pullByField_I_38 rfl (lv_at hl 2 rfl) ?_
  refine va_get (D := (dC, dI)) (ci := 1) (v := .ref (ad 3)) (C := R_P) (T := F_P) (N := 3) hx hb hts (fun w h => gm (i_P w h)) hown hK G.1 1 rfl rfl 0 (by decide) (hts _ (gm tw_46)) (fun _ h9 => h9) rfl d_P_pullByField_I_39 ?_
  refine lv_bipush (v := (16 : Int32)) hx hb d_P_pullByField_I_42 (by decide) ?_
  refine lv_iload_n hx hb d_P_pullByField_I_44 rfl (lv_at hl 3 rfl) ?_
  refine lv_iadd hx hb d_P_pullByField_I_45 ?_
  refine va_lald hx hb hK G.1 3 0 rfl rfl (in_al hk_x1 (by decide)) d_P_pullByField_I_46 ?_
  refine pu_l (As := [.long v2, .long (sR S ((16 : Int32) + x1).toNatClampNeg)]) (rest := [.long (f_I_product_JJ v1 (sF S (0 : Int32).toNatClampNeg)), .int ((48 : Int32) + x1), .ref (ad 3)]) ⟨hx, hb, hml, hown, hts⟩ (c_I_product_JJ l _ v2 (sR S ((16 : Int32) + x1).toNatClampNeg)) pu_pre (gw_call (k := 2) hts tw_174 tw_175 tw_5 tw_176 (by decide +kernel) rfl rfl ⟨Nat.le_of_ble_eq_true rfl, Nat.le_of_ble_eq_true rfl⟩) rfl hl.1 rfl (Nat.le_of_ble_eq_true rfl) ⟨Nat.zero_le _, Nat.zero_le _⟩ d_P_pullByField_I_47 ?_
  refine pu_l (As := [.long (f_I_product_JJ v1 (sF S (0 : Int32).toNatClampNeg)), .long (f_I_product_JJ v2 (sR S ((16 : Int32) + x1).toNatClampNeg))]) (rest := [.int ((48 : Int32) + x1), .ref (ad 3)]) ⟨hx, hb, hml, hown, hts⟩ (c_I_difference_JJ l _ (f_I_product_JJ v1 (sF S (0 : Int32).toNatClampNeg)) (f_I_product_JJ v2 (sR S ((16 : Int32) + x1).toNatClampNeg))) pu_pre (gw_call (k := 2) hts tw_188 tw_189 tw_5 tw_190 (by decide +kernel) rfl rfl ⟨Nat.le_of_ble_eq_true rfl, Nat.le_of_ble_eq_true rfl⟩) rfl hl.1 rfl (Nat.le_of_ble_eq_true rfl) ⟨Nat.zero_le _, Nat.zero_le _⟩ d_P_pullByField_I_50 ?_
  obtain ⟨S3, e3⟩ : ∃ z : CS, z = u_sR S (vp_updL (sR S) ((48 : Int32) + x1).toNatClampNeg (f_I_difference_JJ (f_I_product_JJ v1 (sF S (0 : Int32).toNatClampNeg)) (f_I_product_JJ v2 (sR S ((16 : Int32) + x1).toNatClampNeg)))) := ⟨_, rfl⟩
  refine hg_last hx hb hK G 3 0 rfl rfl (in_al hk_x1 (by decide)) d_P_pullByField_I_53 (cW ad cJ cI S3) (by rw [e3]; rfl) (fun H locs G => ?_)
  refine lv_aload_n hx hb d_P_pullByField_I_54 rfl (lv_at hl 2 rfl) ?_
  refine va_get (D := (dC, dI)) (ci := 1) (v := .ref (ad 3)) (C := R_P) (T := F_P) (N := 3) hx hb hts (fun w h => gm (i_P w h)) hown hK G.1 1 rfl rfl 0 (by decide) (hts _ (gm tw_46)) (fun _ h9 => h9) rfl d_P_pullByField_I_55 ?_
  refine lv_bipush (v := (56 : Int32)) hx hb d_P_pullByField_I_58 (by decide) ?_
  refine lv_iload_n hx hb d_P_pullByField_I_60 rfl (lv_at hl 3 rfl) ?_
  refine lv_iadd hx hb d_P_pullByField_I_61 ?_
  refine lv_lload_n hx hb d_P_pullByField_I_62 rfl (lv_at hl 1 rfl) ?_
  refine lv_aload_n hx hb d_P_pullByField_I_63 rfl (lv_at hl 2 rfl) ?_
  refine va_get (D := (dC, dI)) (ci := 1) (v := .ref (ad 4)) (C := R_P) (T := F_P) (N := 3) hx hb hts (fun w h => gm (i_P w h)) hown hK G.1 1 rfl rfl 1 (by decide) (hts _ (gm tw_47)) (fun _ h9 => h9) rfl d_P_pullByField_I_64 ?_
  refine lv_iconst (v := 1) hx hb d_P_pullByField_I_67 (by decide) ?_
  refine va_lald hx hb hK G.1 4 0 rfl rfl (in_of (by decide) (by decide)) d_P_pullByField_I_68 ?_
  refine pu_l (As := [.long v1, .long (sF S3 (1 : Int32).toNatClampNeg)]) (rest := [.int ((56 : Int32) + x1), .ref (ad 3)]) ⟨hx, hb, hml, hown, hts⟩ (c_I_product_JJ l _ v1 (sF S3 (1 : Int32).toNatClampNeg)) pu_pre (gw_call (k := 2) hts tw_174 tw_175 tw_5 tw_176 (by decide +kernel) rfl rfl ⟨Nat.le_of_ble_eq_true rfl, Nat.le_of_ble_eq_true rfl⟩) rfl hl.1 rfl (Nat.le_of_ble_eq_true rfl) ⟨Nat.zero_le _, Nat.zero_le _⟩ d_P_pullByField_I_69 ?_
  refine lv_lload hx hb d_P_pullByField_I_72 (lv_at hl 0 rfl) ?_
  refine lv_aload_n hx hb d_P_pullByField_I_74 rfl (lv_at hl 2 rfl) ?_
  refine va_get (D := (dC, dI)) (ci := 1) (v := .ref (ad 3)) (C := R_P) (T := F_P) (N := 3) hx hb hts (fun w h => gm (i_P w h)) hown hK G.1 1 rfl rfl 0 (by decide) (hts _ (gm tw_46)) (fun _ h9 => h9) rfl d_P_pullByField_I_75 ?_
  refine lv_bipush (v := (24 : Int32)) hx hb d_P_pullByField_I_78 (by decide) ?_
  refine lv_iload_n hx hb d_P_pullByField_I_80 rfl (lv_at hl 3 rfl) ?_
  refine lv_iadd hx hb d_P_pullByField_I_81 ?_
  refine va_lald hx hb hK G.1 3 0 rfl rfl (in_al hk_x1 (by decide)) d_P_pullByField_I_82 ?_
  refine pu_l (As := [.long v2, .long (sR S3 ((24 : Int32) + x1).toNatClampNeg)]) (rest := [.long (f_I_product_JJ v1 (sF S3 (1 : Int32).toNatClampNeg)), .int ((56 : Int32) + x1), .ref (ad 3)]) ⟨hx, hb, hml, hown, hts⟩ (c_I_product_JJ l _ v2 (sR S3 ((24 : Int32) + x1).toNatClampNeg)) pu_pre (gw_call (k := 2) hts tw_174 tw_175 tw_5 tw_176 (by decide +kernel) rfl rfl ⟨Nat.le_of_ble_eq_true rfl, Nat.le_of_ble_eq_true rfl⟩) rfl hl.1 rfl (Nat.le_of_ble_eq_true rfl) ⟨Nat.zero_le _, Nat.zero_le _⟩ d_P_pullByField_I_83 ?_
  refine pu_l (As := [.long (f_I_product_JJ v1 (sF S3 (1 : Int32).toNatClampNeg)), .long (f_I_product_JJ v2 (sR S3 ((24 : Int32) + x1).toNatClampNeg))]) (rest := [.int ((56 : Int32) + x1), .ref (ad 3)]) ⟨hx, hb, hml, hown, hts⟩ (c_I_difference_JJ l _ (f_I_product_JJ v1 (sF S3 (1 : Int32).toNatClampNeg)) (f_I_product_JJ v2 (sR S3 ((24 : Int32) + x1).toNatClampNeg))) pu_pre (gw_call (k := 2) hts tw_188 tw_189 tw_5 tw_190 (by decide +kernel) rfl rfl ⟨Nat.le_of_ble_eq_true rfl, Nat.le_of_ble_eq_true rfl⟩) rfl hl.1 rfl (Nat.le_of_ble_eq_true rfl) ⟨Nat.zero_le _, Nat.zero_le _⟩ d_P_pullByField_I_86 ?_
  obtain ⟨S4, e4⟩ : ∃ z : CS, z = u_sR S3 (vp_updL (sR S3) ((56 : Int32) + x1).toNatClampNeg (f_I_difference_JJ (f_I_product_JJ v1 (sF S3 (1 : Int32).toNatClampNeg)) (f_I_product_JJ v2 (sR S3 ((24 : Int32) + x1).toNatClampNeg)))) := ⟨_, rfl⟩
  refine hg_last hx hb hK G 3 0 rfl rfl (in_al hk_x1 (by decide)) d_P_pullByField_I_89 (cW ad cJ cI S4) (by rw [e4]; rfl) (fun H locs G => ?_)
  exact hg_vret hx hb hr hlocks hK hAe G (by have qe1 := e1.symm; have qe2 := e2.symm; have qe3 := e3.symm; have qe4 := e4.symm; subst qe1 qe2 qe3 qe4; rfl) d_P_pullByField_I_90
theorem kp_field (S : CS) (x : Int32) : sB (f_P_pullByField_I S x) = sB S ∧ sC (f_P_pullByField_I S x) = sC S := by unfold f_P_pullByField_I; exact ⟨rfl, rfl⟩
-- ===== MotionLab$Springs.firstBody(I)I 
abbrev y_S_firstBody_I : MethodName := ⟨"MotionLab$Springs", "firstBody", "(I)I"⟩
abbrev b_S_firstBody_I : ByteArray := prog_4_method_5_code
theorem d_S_firstBody_I_0 : decode b_S_firstBody_I 0 = .ok (.aload_n 0, 1) := by decide +kernel
theorem d_S_firstBody_I_1 : decode b_S_firstBody_I 1 = .ok (.getfield 9, 3) := by decide +kernel
theorem d_S_firstBody_I_4 : decode b_S_firstBody_I 4 = .ok (.iload_n 1, 1) := by decide +kernel
theorem d_S_firstBody_I_5 : decode b_S_firstBody_I 5 = .ok (.iconst 2, 1) := by decide +kernel
theorem d_S_firstBody_I_6 : decode b_S_firstBody_I 6 = .ok (.imul, 1) := by decide +kernel
theorem d_S_firstBody_I_7 : decode b_S_firstBody_I 7 = .ok (.iaload, 1) := by decide +kernel
theorem d_S_firstBody_I_8 : decode b_S_firstBody_I 8 = .ok (.ireturn, 1) := by decide +kernel
def f_S_firstBody_I (S : CS) (x1 : Int32) : Int32 :=
  sB S (x1 * (2 : Int32)).toNatClampNeg
set_option maxHeartbeats 4000000 in
set_option maxRecDepth 100000 in
theorem c_S_firstBody_I (l : Launch) (dC : Nat → ClassId) (dI : Nat → Nat → Nat) (ad : Nat → Nat) (cJ cI : ClassId) (S : CS) (x1 : Int32) (hk_x1 : vp_in x1 10) (sz : Nat) : hMi l y_S_firstBody_I (gw y_S_firstBody_I b_S_firstBody_I 2 (some .int)) { frames := 0, cells := 0, slots := 0, locals := 0 } [.ref (ad 5), .int x1] (dC, dI) classes (tysJI cJ cI) (fun _ => True) (cW ad cJ cI S) sz (f_S_firstBody_I S x1) (cW ad cJ cI S) := by
  refine Met.ofW (cc := b_S_firstBody_I) (maxL := 2) (ret := (some .int)) (by decide) rfl ?_
  intro p e s m args below meth c s₁ B hml hv
  obtain ⟨rfl, hsz, hP, hK, hD0, hRT⟩ := hv
  have hx := B.exec
  have hb := B.bytes
  have hr := B.returns
  have hts := atoms_spec (ws := (gw y_S_firstBody_I b_S_firstBody_I 2 (some .int))) B.pre
  have hown : s.vm.findClass "MotionLab$Springs" = some m.cls := findClass_of_methodNamed B.named
  have hlocks := B.notSynchronized
  subst hsz
  have hD := hD0.self (sz := s.heap.size)
  generalize hAe : va_A (cW ad cJ cI S) s.heap.size = A at hD
  have hA : ∀ q : Nat, s.heap.size ≤ q → A q := fun q h => by rw [← hAe]; exact Or.inr h
  have G : hG (dC, dI) classes A s.heap (cW ad cJ cI S) s.heap [] := ⟨hP, hD, va_S.rf⟩
  have hl := lv_entry ([.ref (ad 5), .int x1]) (n := 2) (Nat.le_of_ble_eq_true rfl)
  rw [lg_entry_eq]
  generalize (lg_sl ([.ref (ad 5), .int x1]) ++ List.replicate (2 - (lg_sl ([.ref (ad 5), .int x1])).length) Slot.unset).toArray = ls at hl ⊢
  have hl : lv_has ls 2 [(0, .ref (ad 5)), (1, .int x1)] := hl
  refine lv_aload_n hx hb d_S_firstBody_I_0 rfl (lv_at hl 0 rfl) ?_
  refine va_get (D := (dC, dI)) (ci := 2) (v := .ref (ad 6)) (C := R_S) (T := F_S) (N := 3) hx hb hts (fun w h => gm (i_S w h)) hown hK G.1 5 rfl rfl 0 (by decide) (hts _ (gm tw_29)) (fun _ h9 => h9) rfl d_S_firstBody_I_1 ?_
  refine lv_iload_n hx hb d_S_firstBody_I_4 rfl (lv_at hl 1 rfl) ?_
  refine lv_iconst (v := 2) hx hb d_S_firstBody_I_5 (by decide) ?_
  refine lv_imul hx hb d_S_firstBody_I_6 ?_
  refine va_iald hx hb hK G.1 6 1 rfl rfl (in_ml hk_x1 (by decide)) d_S_firstBody_I_7 ?_
  exact hg_iret hx hb hr hlocks hK hAe G (by exact ⟨rfl, rfl⟩) d_S_firstBody_I_8
-- ===== MotionLab$Springs.secondBody(I)I 
abbrev y_S_secondBody_I : MethodName := ⟨"MotionLab$Springs", "secondBody", "(I)I"⟩
abbrev b_S_secondBody_I : ByteArray := prog_4_method_6_code
theorem d_S_secondBody_I_0 : decode b_S_secondBody_I 0 = .ok (.aload_n 0, 1) := by decide +kernel
theorem d_S_secondBody_I_1 : decode b_S_secondBody_I 1 = .ok (.getfield 9, 3) := by decide +kernel
theorem d_S_secondBody_I_4 : decode b_S_secondBody_I 4 = .ok (.iload_n 1, 1) := by decide +kernel
theorem d_S_secondBody_I_5 : decode b_S_secondBody_I 5 = .ok (.iconst 2, 1) := by decide +kernel
theorem d_S_secondBody_I_6 : decode b_S_secondBody_I 6 = .ok (.imul, 1) := by decide +kernel
theorem d_S_secondBody_I_7 : decode b_S_secondBody_I 7 = .ok (.iconst 1, 1) := by decide +kernel
theorem d_S_secondBody_I_8 : decode b_S_secondBody_I 8 = .ok (.iadd, 1) := by decide +kernel
theorem d_S_secondBody_I_9 : decode b_S_secondBody_I 9 = .ok (.iaload, 1) := by decide +kernel
theorem d_S_secondBody_I_10 : decode b_S_secondBody_I 10 = .ok (.ireturn, 1) := by decide +kernel
def f_S_secondBody_I (S : CS) (x1 : Int32) : Int32 :=
  sB S ((x1 * (2 : Int32)) + (1 : Int32)).toNatClampNeg
set_option maxHeartbeats 4000000 in
set_option maxRecDepth 100000 in
theorem c_S_secondBody_I (l : Launch) (dC : Nat → ClassId) (dI : Nat → Nat → Nat) (ad : Nat → Nat) (cJ cI : ClassId) (S : CS) (x1 : Int32) (hk_x1 : vp_in x1 10) (sz : Nat) : hMi l y_S_secondBody_I (gw y_S_secondBody_I b_S_secondBody_I 2 (some .int)) { frames := 0, cells := 0, slots := 0, locals := 0 } [.ref (ad 5), .int x1] (dC, dI) classes (tysJI cJ cI) (fun _ => True) (cW ad cJ cI S) sz (f_S_secondBody_I S x1) (cW ad cJ cI S) := by
  refine Met.ofW (cc := b_S_secondBody_I) (maxL := 2) (ret := (some .int)) (by decide) rfl ?_
  intro p e s m args below meth c s₁ B hml hv
  obtain ⟨rfl, hsz, hP, hK, hD0, hRT⟩ := hv
  have hx := B.exec
  have hb := B.bytes
  have hr := B.returns
  have hts := atoms_spec (ws := (gw y_S_secondBody_I b_S_secondBody_I 2 (some .int))) B.pre
  have hown : s.vm.findClass "MotionLab$Springs" = some m.cls := findClass_of_methodNamed B.named
  have hlocks := B.notSynchronized
  subst hsz
  have hD := hD0.self (sz := s.heap.size)
  generalize hAe : va_A (cW ad cJ cI S) s.heap.size = A at hD
  have hA : ∀ q : Nat, s.heap.size ≤ q → A q := fun q h => by rw [← hAe]; exact Or.inr h
  have G : hG (dC, dI) classes A s.heap (cW ad cJ cI S) s.heap [] := ⟨hP, hD, va_S.rf⟩
  have hl := lv_entry ([.ref (ad 5), .int x1]) (n := 2) (Nat.le_of_ble_eq_true rfl)
  rw [lg_entry_eq]
  generalize (lg_sl ([.ref (ad 5), .int x1]) ++ List.replicate (2 - (lg_sl ([.ref (ad 5), .int x1])).length) Slot.unset).toArray = ls at hl ⊢
  have hl : lv_has ls 2 [(0, .ref (ad 5)), (1, .int x1)] := hl
  refine lv_aload_n hx hb d_S_secondBody_I_0 rfl (lv_at hl 0 rfl) ?_
  refine va_get (D := (dC, dI)) (ci := 2) (v := .ref (ad 6)) (C := R_S) (T := F_S) (N := 3) hx hb hts (fun w h => gm (i_S w h)) hown hK G.1 5 rfl rfl 0 (by decide) (hts _ (gm tw_29)) (fun _ h9 => h9) rfl d_S_secondBody_I_1 ?_
  refine lv_iload_n hx hb d_S_secondBody_I_4 rfl (lv_at hl 1 rfl) ?_
  refine lv_iconst (v := 2) hx hb d_S_secondBody_I_5 (by decide) ?_
  refine lv_imul hx hb d_S_secondBody_I_6 ?_
  refine lv_iconst (v := 1) hx hb d_S_secondBody_I_7 (by decide) ?_
  refine lv_iadd hx hb d_S_secondBody_I_8 ?_
  refine va_iald hx hb hK G.1 6 1 rfl rfl (in_mla hk_x1 (by decide)) d_S_secondBody_I_9 ?_
  exact hg_iret hx hb hr hlocks hK hAe G (by exact ⟨rfl, rfl⟩) d_S_secondBody_I_10
theorem cOK_at {S : CS} {x : Int32} {n : Nat} (hOK : cOK S) (h : ∃ j : Nat, x = nI j ∧ j ≤ (sC S).toNatClampNeg ∧ (sC S).toNatClampNeg - j < n) (c : ¬ sC S ≤ x) : vp_in x 10 ∧ vp_in (f_S_firstBody_I S x) 8 ∧ vp_in (f_S_secondBody_I S x) 8 := by
  obtain ⟨j, h1, h2, h3⟩ := lp_at h hOK.1 c
  obtain ⟨i1, i2⟩ := ix_two (j := j) (by omega)
  have hx : vp_in x 10 := by rw [h1]; exact vp_in_nI h3 (by decide)
  have hb := hOK.2 j h2
  subst h1
  unfold f_S_firstBody_I f_S_secondBody_I
  rw [i1, i2]
  exact ⟨hx, hb.1, hb.2⟩
-- ===== MotionLab$Springs.stiffness(I)J 
abbrev y_S_stiffness_I : MethodName := ⟨"MotionLab$Springs", "stiffness", "(I)J"⟩
abbrev b_S_stiffness_I : ByteArray := prog_4_method_7_code
theorem d_S_stiffness_I_0 : decode b_S_stiffness_I 0 = .ok (.aload_n 0, 1) := by decide +kernel
theorem d_S_stiffness_I_1 : decode b_S_stiffness_I 1 = .ok (.getfield 13, 3) := by decide +kernel
theorem d_S_stiffness_I_4 : decode b_S_stiffness_I 4 = .ok (.iload_n 1, 1) := by decide +kernel
theorem d_S_stiffness_I_5 : decode b_S_stiffness_I 5 = .ok (.iconst 3, 1) := by decide +kernel
theorem d_S_stiffness_I_6 : decode b_S_stiffness_I 6 = .ok (.imul, 1) := by decide +kernel
theorem d_S_stiffness_I_7 : decode b_S_stiffness_I 7 = .ok (.laload, 1) := by decide +kernel
theorem d_S_stiffness_I_8 : decode b_S_stiffness_I 8 = .ok (.lreturn, 1) := by decide +kernel
def f_S_stiffness_I (S : CS) (x1 : Int32) : Int64 :=
  sN S (x1 * (3 : Int32)).toNatClampNeg
set_option maxHeartbeats 4000000 in
set_option maxRecDepth 100000 in
theorem c_S_stiffness_I (l : Launch) (dC : Nat → ClassId) (dI : Nat → Nat → Nat) (ad : Nat → Nat) (cJ cI : ClassId) (S : CS) (x1 : Int32) (hk_x1 : vp_in x1 10) (sz : Nat) : hMl l y_S_stiffness_I (gw y_S_stiffness_I b_S_stiffness_I 2 (some .long)) { frames := 0, cells := 0, slots := 0, locals := 0 } [.ref (ad 5), .int x1] (dC, dI) classes (tysJI cJ cI) (fun _ => True) (cW ad cJ cI S) sz (f_S_stiffness_I S x1) (cW ad cJ cI S) := by
  refine Met.ofW (cc := b_S_stiffness_I) (maxL := 2) (ret := (some .long)) (by decide) rfl ?_
  intro p e s m args below meth c s₁ B hml hv
  obtain ⟨rfl, hsz, hP, hK, hD0, hRT⟩ := hv
  have hx := B.exec
  have hb := B.bytes
  have hr := B.returns
  have hts := atoms_spec (ws := (gw y_S_stiffness_I b_S_stiffness_I 2 (some .long))) B.pre
  have hown : s.vm.findClass "MotionLab$Springs" = some m.cls := findClass_of_methodNamed B.named
  have hlocks := B.notSynchronized
  subst hsz
  have hD := hD0.self (sz := s.heap.size)
  generalize hAe : va_A (cW ad cJ cI S) s.heap.size = A at hD
  have hA : ∀ q : Nat, s.heap.size ≤ q → A q := fun q h => by rw [← hAe]; exact Or.inr h
  have G : hG (dC, dI) classes A s.heap (cW ad cJ cI S) s.heap [] := ⟨hP, hD, va_S.rf⟩
  have hl := lv_entry ([.ref (ad 5), .int x1]) (n := 2) (Nat.le_of_ble_eq_true rfl)
  rw [lg_entry_eq]
  generalize (lg_sl ([.ref (ad 5), .int x1]) ++ List.replicate (2 - (lg_sl ([.ref (ad 5), .int x1])).length) Slot.unset).toArray = ls at hl ⊢
  have hl : lv_has ls 2 [(0, .ref (ad 5)), (1, .int x1)] := hl
  refine lv_aload_n hx hb d_S_stiffness_I_0 rfl (lv_at hl 0 rfl) ?_
  refine va_get (D := (dC, dI)) (ci := 2) (v := .ref (ad 7)) (C := R_S) (T := F_S) (N := 3) hx hb hts (fun w h => gm (i_S w h)) hown hK G.1 5 rfl rfl 1 (by decide) (hts _ (gm tw_30)) (fun _ h9 => h9) rfl d_S_stiffness_I_1 ?_
  refine lv_iload_n hx hb d_S_stiffness_I_4 rfl (lv_at hl 1 rfl) ?_
  refine lv_iconst (v := 3) hx hb d_S_stiffness_I_5 (by decide) ?_
  refine lv_imul hx hb d_S_stiffness_I_6 ?_
  refine va_lald hx hb hK G.1 7 0 rfl rfl (in_ml hk_x1 (by decide)) d_S_stiffness_I_7 ?_
  exact hg_lret hx hb hr hlocks hK hAe G (by exact ⟨rfl, rfl⟩) d_S_stiffness_I_8
-- ===== MotionLab$Springs.length(I)J 
abbrev y_S_length_I : MethodName := ⟨"MotionLab$Springs", "length", "(I)J"⟩
abbrev b_S_length_I : ByteArray := prog_4_method_8_code
theorem d_S_length_I_0 : decode b_S_length_I 0 = .ok (.aload_n 0, 1) := by decide +kernel
theorem d_S_length_I_1 : decode b_S_length_I 1 = .ok (.getfield 13, 3) := by decide +kernel
theorem d_S_length_I_4 : decode b_S_length_I 4 = .ok (.iload_n 1, 1) := by decide +kernel
theorem d_S_length_I_5 : decode b_S_length_I 5 = .ok (.iconst 3, 1) := by decide +kernel
theorem d_S_length_I_6 : decode b_S_length_I 6 = .ok (.imul, 1) := by decide +kernel
theorem d_S_length_I_7 : decode b_S_length_I 7 = .ok (.iconst 1, 1) := by decide +kernel
theorem d_S_length_I_8 : decode b_S_length_I 8 = .ok (.iadd, 1) := by decide +kernel
theorem d_S_length_I_9 : decode b_S_length_I 9 = .ok (.laload, 1) := by decide +kernel
theorem d_S_length_I_10 : decode b_S_length_I 10 = .ok (.lreturn, 1) := by decide +kernel
def f_S_length_I (S : CS) (x1 : Int32) : Int64 :=
  sN S ((x1 * (3 : Int32)) + (1 : Int32)).toNatClampNeg
set_option maxHeartbeats 4000000 in
set_option maxRecDepth 100000 in
theorem c_S_length_I (l : Launch) (dC : Nat → ClassId) (dI : Nat → Nat → Nat) (ad : Nat → Nat) (cJ cI : ClassId) (S : CS) (x1 : Int32) (hk_x1 : vp_in x1 10) (sz : Nat) : hMl l y_S_length_I (gw y_S_length_I b_S_length_I 2 (some .long)) { frames := 0, cells := 0, slots := 0, locals := 0 } [.ref (ad 5), .int x1] (dC, dI) classes (tysJI cJ cI) (fun _ => True) (cW ad cJ cI S) sz (f_S_length_I S x1) (cW ad cJ cI S) := by
  refine Met.ofW (cc := b_S_length_I) (maxL := 2) (ret := (some .long)) (by decide) rfl ?_
  intro p e s m args below meth c s₁ B hml hv
  obtain ⟨rfl, hsz, hP, hK, hD0, hRT⟩ := hv
  have hx := B.exec
  have hb := B.bytes
  have hr := B.returns
  have hts := atoms_spec (ws := (gw y_S_length_I b_S_length_I 2 (some .long))) B.pre
  have hown : s.vm.findClass "MotionLab$Springs" = some m.cls := findClass_of_methodNamed B.named
  have hlocks := B.notSynchronized
  subst hsz
  have hD := hD0.self (sz := s.heap.size)
  generalize hAe : va_A (cW ad cJ cI S) s.heap.size = A at hD
  have hA : ∀ q : Nat, s.heap.size ≤ q → A q := fun q h => by rw [← hAe]; exact Or.inr h
  have G : hG (dC, dI) classes A s.heap (cW ad cJ cI S) s.heap [] := ⟨hP, hD, va_S.rf⟩
  have hl := lv_entry ([.ref (ad 5), .int x1]) (n := 2) (Nat.le_of_ble_eq_true rfl)
  rw [lg_entry_eq]
  generalize (lg_sl ([.ref (ad 5), .int x1]) ++ List.replicate (2 - (lg_sl ([.ref (ad 5), .int x1])).length) Slot.unset).toArray = ls at hl ⊢
  have hl : lv_has ls 2 [(0, .ref (ad 5)), (1, .int x1)] := hl
  refine lv_aload_n hx hb d_S_length_I_0 rfl (lv_at hl 0 rfl) ?_
  refine va_get (D := (dC, dI)) (ci := 2) (v := .ref (ad 7)) (C := R_S) (T := F_S) (N := 3) hx hb hts (fun w h => gm (i_S w h)) hown hK G.1 5 rfl rfl 1 (by decide) (hts _ (gm tw_30)) (fun _ h9 => h9) rfl d_S_length_I_1 ?_
  refine lv_iload_n hx hb d_S_length_I_4 rfl (lv_at hl 1 rfl) ?_
  refine lv_iconst (v := 3) hx hb d_S_length_I_5 (by decide) ?_
  refine lv_imul hx hb d_S_length_I_6 ?_
  refine lv_iconst (v := 1) hx hb d_S_length_I_7 (by decide) ?_
  refine lv_iadd hx hb d_S_length_I_8 ?_
  refine va_lald hx hb hK G.1 7 0 rfl rfl (in_mla hk_x1 (by decide)) d_S_length_I_9 ?_
  exact hg_lret hx hb hr hlocks hK hAe G (by exact ⟨rfl, rfl⟩) d_S_length_I_10
-- ===== MotionLab$Springs.damping(I)J 
abbrev y_S_damping_I : MethodName := ⟨"MotionLab$Springs", "damping", "(I)J"⟩
abbrev b_S_damping_I : ByteArray := prog_4_method_9_code
theorem d_S_damping_I_0 : decode b_S_damping_I 0 = .ok (.aload_n 0, 1) := by decide +kernel
theorem d_S_damping_I_1 : decode b_S_damping_I 1 = .ok (.getfield 13, 3) := by decide +kernel
theorem d_S_damping_I_4 : decode b_S_damping_I 4 = .ok (.iload_n 1, 1) := by decide +kernel
theorem d_S_damping_I_5 : decode b_S_damping_I 5 = .ok (.iconst 3, 1) := by decide +kernel
theorem d_S_damping_I_6 : decode b_S_damping_I 6 = .ok (.imul, 1) := by decide +kernel
theorem d_S_damping_I_7 : decode b_S_damping_I 7 = .ok (.iconst 2, 1) := by decide +kernel
theorem d_S_damping_I_8 : decode b_S_damping_I 8 = .ok (.iadd, 1) := by decide +kernel
theorem d_S_damping_I_9 : decode b_S_damping_I 9 = .ok (.laload, 1) := by decide +kernel
theorem d_S_damping_I_10 : decode b_S_damping_I 10 = .ok (.lreturn, 1) := by decide +kernel
def f_S_damping_I (S : CS) (x1 : Int32) : Int64 :=
  sN S ((x1 * (3 : Int32)) + (2 : Int32)).toNatClampNeg
set_option maxHeartbeats 4000000 in
set_option maxRecDepth 100000 in
theorem c_S_damping_I (l : Launch) (dC : Nat → ClassId) (dI : Nat → Nat → Nat) (ad : Nat → Nat) (cJ cI : ClassId) (S : CS) (x1 : Int32) (hk_x1 : vp_in x1 10) (sz : Nat) : hMl l y_S_damping_I (gw y_S_damping_I b_S_damping_I 2 (some .long)) { frames := 0, cells := 0, slots := 0, locals := 0 } [.ref (ad 5), .int x1] (dC, dI) classes (tysJI cJ cI) (fun _ => True) (cW ad cJ cI S) sz (f_S_damping_I S x1) (cW ad cJ cI S) := by
  refine Met.ofW (cc := b_S_damping_I) (maxL := 2) (ret := (some .long)) (by decide) rfl ?_
  intro p e s m args below meth c s₁ B hml hv
  obtain ⟨rfl, hsz, hP, hK, hD0, hRT⟩ := hv
  have hx := B.exec
  have hb := B.bytes
  have hr := B.returns
  have hts := atoms_spec (ws := (gw y_S_damping_I b_S_damping_I 2 (some .long))) B.pre
  have hown : s.vm.findClass "MotionLab$Springs" = some m.cls := findClass_of_methodNamed B.named
  have hlocks := B.notSynchronized
  subst hsz
  have hD := hD0.self (sz := s.heap.size)
  generalize hAe : va_A (cW ad cJ cI S) s.heap.size = A at hD
  have hA : ∀ q : Nat, s.heap.size ≤ q → A q := fun q h => by rw [← hAe]; exact Or.inr h
  have G : hG (dC, dI) classes A s.heap (cW ad cJ cI S) s.heap [] := ⟨hP, hD, va_S.rf⟩
  have hl := lv_entry ([.ref (ad 5), .int x1]) (n := 2) (Nat.le_of_ble_eq_true rfl)
  rw [lg_entry_eq]
  generalize (lg_sl ([.ref (ad 5), .int x1]) ++ List.replicate (2 - (lg_sl ([.ref (ad 5), .int x1])).length) Slot.unset).toArray = ls at hl ⊢
  have hl : lv_has ls 2 [(0, .ref (ad 5)), (1, .int x1)] := hl
  refine lv_aload_n hx hb d_S_damping_I_0 rfl (lv_at hl 0 rfl) ?_
  refine va_get (D := (dC, dI)) (ci := 2) (v := .ref (ad 7)) (C := R_S) (T := F_S) (N := 3) hx hb hts (fun w h => gm (i_S w h)) hown hK G.1 5 rfl rfl 1 (by decide) (hts _ (gm tw_30)) (fun _ h9 => h9) rfl d_S_damping_I_1 ?_
  refine lv_iload_n hx hb d_S_damping_I_4 rfl (lv_at hl 1 rfl) ?_
  refine lv_iconst (v := 3) hx hb d_S_damping_I_5 (by decide) ?_
  refine lv_imul hx hb d_S_damping_I_6 ?_
  refine lv_iconst (v := 2) hx hb d_S_damping_I_7 (by decide) ?_
  refine lv_iadd hx hb d_S_damping_I_8 ?_
  refine va_lald hx hb hK G.1 7 0 rfl rfl (in_mla hk_x1 (by decide)) d_S_damping_I_9 ?_
  exact hg_lret hx hb hr hlocks hK hAe G (by exact ⟨rfl, rfl⟩) d_S_damping_I_10
