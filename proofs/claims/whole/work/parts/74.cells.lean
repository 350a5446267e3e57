-- ===== MotionLabModel.about(I)J 
abbrev y_M_about_I : MethodName := ⟨"MotionLabModel", "about", "(I)J"⟩
abbrev b_M_about_I : ByteArray := prog_6_method_47_code
theorem d_M_about_I_0 : decode b_M_about_I 0 = .ok (.iload_n 1, 1) := by decide +kernel
theorem d_M_about_I_1 : decode b_M_about_I 1 = .ok (.tableswitch 93 0 5 #[39, 47, 55, 63, 74, 82], 39) := by decide +kernel
theorem d_M_about_I_40 : decode b_M_about_I 40 = .ok (.aload_n 0, 1) := by decide +kernel
theorem d_M_about_I_41 : decode b_M_about_I 41 = .ok (.getfield 198, 3) := by decide +kernel
theorem d_M_about_I_44 : decode b_M_about_I 44 = .ok (.invokestatic 251, 3) := by decide +kernel
theorem d_M_about_I_47 : decode b_M_about_I 47 = .ok (.lreturn, 1) := by decide +kernel
theorem d_M_about_I_48 : decode b_M_about_I 48 = .ok (.aload_n 0, 1) := by decide +kernel
theorem d_M_about_I_49 : decode b_M_about_I 49 = .ok (.getfield 201, 3) := by decide +kernel
theorem d_M_about_I_52 : decode b_M_about_I 52 = .ok (.invokestatic 251, 3) := by decide +kernel
theorem d_M_about_I_55 : decode b_M_about_I 55 = .ok (.lreturn, 1) := by decide +kernel
theorem d_M_about_I_56 : decode b_M_about_I 56 = .ok (.aload_n 0, 1) := by decide +kernel
theorem d_M_about_I_57 : decode b_M_about_I 57 = .ok (.getfield 204, 3) := by decide +kernel
theorem d_M_about_I_60 : decode b_M_about_I 60 = .ok (.invokestatic 251, 3) := by decide +kernel
theorem d_M_about_I_63 : decode b_M_about_I 63 = .ok (.lreturn, 1) := by decide +kernel
theorem d_M_about_I_64 : decode b_M_about_I 64 = .ok (.aload_n 0, 1) := by decide +kernel
theorem d_M_about_I_65 : decode b_M_about_I 65 = .ok (.getfield 160, 3) := by decide +kernel
theorem d_M_about_I_68 : decode b_M_about_I 68 = .ok (.invokestatic 229, 3) := by decide +kernel
theorem d_M_about_I_71 : decode b_M_about_I 71 = .ok (.invokestatic 251, 3) := by decide +kernel
theorem d_M_about_I_74 : decode b_M_about_I 74 = .ok (.lreturn, 1) := by decide +kernel
theorem d_M_about_I_75 : decode b_M_about_I 75 = .ok (.aload_n 0, 1) := by decide +kernel
theorem d_M_about_I_76 : decode b_M_about_I 76 = .ok (.getfield 164, 3) := by decide +kernel
theorem d_M_about_I_79 : decode b_M_about_I 79 = .ok (.invokestatic 251, 3) := by decide +kernel
theorem d_M_about_I_82 : decode b_M_about_I 82 = .ok (.lreturn, 1) := by decide +kernel
theorem d_M_about_I_83 : decode b_M_about_I 83 = .ok (.aload_n 0, 1) := by decide +kernel
theorem d_M_about_I_84 : decode b_M_about_I 84 = .ok (.getfield 169, 3) := by decide +kernel
theorem d_M_about_I_87 : decode b_M_about_I 87 = .ok (.invokestatic 229, 3) := by decide +kernel
theorem d_M_about_I_90 : decode b_M_about_I 90 = .ok (.invokestatic 251, 3) := by decide +kernel
theorem d_M_about_I_93 : decode b_M_about_I 93 = .ok (.lreturn, 1) := by decide +kernel
theorem d_M_about_I_94 : decode b_M_about_I 94 = .ok (.lconst 1, 1) := by decide +kernel
theorem d_M_about_I_95 : decode b_M_about_I 95 = .ok (.lreturn, 1) := by decide +kernel
def f_M_about_I (S : MS) (x1 : Int32) : Int64 :=
  if x1 = 0 then
    f_M_told_J (m_gx S)
  else
    if x1 = 1 then
      f_M_told_J (m_gy S)
    else
      if x1 = 2 then
        f_M_told_J (m_drag S)
      else
        if x1 = 3 then
          f_M_told_J (f_M_toDouble_J (m_dt S))
        else
          if x1 = 4 then
            f_M_told_J (m_wall S)
          else
            if x1 = 5 then
              f_M_told_J (f_M_toDouble_J (m_back S))
            else
              (1 : Int64)
set_option maxHeartbeats 4000000 in
set_option maxRecDepth 100000 in
theorem c_M_about_I (l : Launch) (dC : Nat → ClassId) (dI : Nat → Nat → Nat) (ad : Nat → Nat) (cJ cI : ClassId) (t0 t1 t2 : Nat) (S : MS) (x1 : Int32) (sz : Nat) : hMl l y_M_about_I (gw y_M_about_I b_M_about_I 2 (some .long)) { frames := 6, cells := 0, slots := 0, locals := 145 } [.ref (ad 0), .int x1] (dC, dI) classes (tysJI cJ cI) (hE_M t0 t1 t2 (mW ad cJ cI S) sz) (mW ad cJ cI S) sz (f_M_about_I S x1) (mW ad cJ cI S) := by
  refine Met.ofW (cc := b_M_about_I) (maxL := 2) (ret := (some .long)) (by decide) rfl ?_
  intro p e s m args below meth c s₁ B hml hv
  obtain ⟨rfl, hsz, hP, hK, hD0, hRT⟩ := hv
  have hx := B.exec
  have hb := B.bytes
  have hr := B.returns
  have hts := atoms_spec (ws := (gw y_M_about_I b_M_about_I 2 (some .long))) B.pre
  have hown : s.vm.findClass "MotionLabModel" = some m.cls := findClass_of_methodNamed B.named
  have hlocks := B.notSynchronized
  subst hsz
  have hD := hD0.self (sz := s.heap.size)
  have hRT : RTA t0 t1 t2 (va_A (mW ad cJ cI S) s.heap.size) s s.heap := hRT
  generalize hAe : va_A (mW ad cJ cI S) s.heap.size = A at hD hRT
  have hA : ∀ q : Nat, s.heap.size ≤ q → A q := fun q h => by rw [← hAe]; exact Or.inr h
  have G : hG (dC, dI) classes A s.heap (mW ad cJ cI S) s.heap [] := ⟨hP, hD, va_S.rf⟩
  have hl := lv_entry ([.ref (ad 0), .int x1]) (n := 2) (Nat.le_of_ble_eq_true rfl)
  rw [lg_entry_eq]
  generalize (lg_sl ([.ref (ad 0), .int x1]) ++ List.replicate (2 - (lg_sl ([.ref (ad 0), .int x1])).length) Slot.unset).toArray = ls at hl ⊢
  have hl : lv_has ls 2 [(0, .ref (ad 0)), (1, .int x1)] := hl
  refine lv_iload_n hx hb d_M_about_I_0 rfl (lv_at hl 1 rfl) ?_
  by_cases c1 : x1 = 0
  · refine lv_tableIn (off := 39) (tgt := 40) hx hb d_M_about_I_1 (by rw [c1]; decide) (by rw [c1]; decide) (by rw [c1]; rfl) (by decide) ?_
    refine lv_aload_n hx hb d_M_about_I_40 rfl (lv_at hl 0 rfl) ?_
    refine va_get (D := (dC, dI)) (ci := 3) (v := .long (m_gx S)) (C := R_M) (T := F_M) (N := 21) hx hb hts (fun w h => gm (i_M w h)) hown hK G.1 0 rfl rfl 8 (by decide) (hts _ (gm tw_429)) (fun _ h9 => h9) rfl d_M_about_I_41 ?_
    refine pu_l (As := [.long (m_gx S)]) (rest := []) ⟨hx, hb, hml, hown, hts⟩ (c_M_told_J l _ (m_gx S)) pu_pre (gw_call (k := 1) hts tw_647 tw_648 tw_4 tw_649 (by decide +kernel) rfl rfl ⟨Nat.le_of_ble_eq_true rfl, Nat.le_of_ble_eq_true rfl⟩) rfl hl.1 rfl (Nat.le_of_ble_eq_true rfl) ⟨Nat.zero_le _, Nat.zero_le _⟩ d_M_about_I_44 ?_
    exact hg_lret hx hb hr hlocks hK hAe G (by have e9 : f_M_about_I S x1 = _ := (if_pos c1); exact ⟨Eq.symm e9, rfl⟩) d_M_about_I_47
  · skip
    by_cases c2 : x1 = 1
    · refine lv_tableIn (off := 47) (tgt := 48) hx hb d_M_about_I_1 (by rw [c2]; decide) (by rw [c2]; decide) (by rw [c2]; rfl) (by decide) ?_
      refine lv_aload_n hx hb d_M_about_I_48 rfl (lv_at hl 0 rfl) ?_
      refine va_get (D := (dC, dI)) (ci := 3) (v := .long (m_gy S)) (C := R_M) (T := F_M) (N := 21) hx hb hts (fun w h => gm (i_M w h)) hown hK G.1 0 rfl rfl 9 (by decide) (hts _ (gm tw_430)) (fun _ h9 => h9) rfl d_M_about_I_49 ?_
      refine pu_l (As := [.long (m_gy S)]) (rest := []) ⟨hx, hb, hml, hown, hts⟩ (c_M_told_J l _ (m_gy S)) pu_pre (gw_call (k := 1) hts tw_647 tw_648 tw_4 tw_649 (by decide +kernel) rfl rfl ⟨Nat.le_of_ble_eq_true rfl, Nat.le_of_ble_eq_true rfl⟩) rfl hl.1 rfl (Nat.le_of_ble_eq_true rfl) ⟨Nat.zero_le _, Nat.zero_le _⟩ d_M_about_I_52 ?_
      exact hg_lret hx hb hr hlocks hK hAe G (by have e9 : f_M_about_I S x1 = _ := (Eq.trans (if_neg c1) (if_pos c2)); exact ⟨Eq.symm e9, rfl⟩) d_M_about_I_55
    · skip
      by_cases c3 : x1 = 2
      · refine lv_tableIn (off := 55) (tgt := 56) hx hb d_M_about_I_1 (by rw [c3]; decide) (by rw [c3]; decide) (by rw [c3]; rfl) (by decide) ?_
        refine lv_aload_n hx hb d_M_about_I_56 rfl (lv_at hl 0 rfl) ?_
        refine va_get (D := (dC, dI)) (ci := 3) (v := .long (m_drag S)) (C := R_M) (T := F_M) (N := 21) hx hb hts (fun w h => gm (i_M w h)) hown hK G.1 0 rfl rfl 10 (by decide) (hts _ (gm tw_431)) (fun _ h9 => h9) rfl d_M_about_I_57 ?_
        refine pu_l (As := [.long (m_drag S)]) (rest := []) ⟨hx, hb, hml, hown, hts⟩ (c_M_told_J l _ (m_drag S)) pu_pre (gw_call (k := 1) hts tw_647 tw_648 tw_4 tw_649 (by decide +kernel) rfl rfl ⟨Nat.le_of_ble_eq_true rfl, Nat.le_of_ble_eq_true rfl⟩) rfl hl.1 rfl (Nat.le_of_ble_eq_true rfl) ⟨Nat.zero_le _, Nat.zero_le _⟩ d_M_about_I_60 ?_
        exact hg_lret hx hb hr hlocks hK hAe G (by have e9 : f_M_about_I S x1 = _ := (Eq.trans (if_neg c1) (Eq.trans (if_neg c2) (if_pos c3))); exact ⟨Eq.symm e9, rfl⟩) d_M_about_I_63
      · skip
        by_cases c4 : x1 = 3
        · refine lv_tableIn (off := 63) (tgt := 64) hx hb d_M_about_I_1 (by rw [c4]; decide) (by rw [c4]; decide) (by rw [c4]; rfl) (by decide) ?_
          refine lv_aload_n hx hb d_M_about_I_64 rfl (lv_at hl 0 rfl) ?_
          refine va_get (D := (dC, dI)) (ci := 3) (v := .long (m_dt S)) (C := R_M) (T := F_M) (N := 21) hx hb hts (fun w h => gm (i_M w h)) hown hK G.1 0 rfl rfl 11 (by decide) (hts _ (gm tw_432)) (fun _ h9 => h9) rfl d_M_about_I_65 ?_
          refine pu_l (As := [.long (m_dt S)]) (rest := []) ⟨hx, hb, hml, hown, hts⟩ (c_M_toDouble_J l _ t0 t1 t2 (m_dt S)) (pr_pre (hx_R hRT G)) (gw_call (k := 1) hts tw_570 tw_571 tw_4 tw_572 (by decide +kernel) rfl rfl ⟨Nat.le_of_ble_eq_true rfl, Nat.le_of_ble_eq_true rfl⟩) rfl hl.1 rfl (Nat.le_of_ble_eq_true rfl) ⟨Nat.zero_le _, Nat.zero_le _⟩ d_M_about_I_68 ?_
          refine pu_l (As := [.long (f_M_toDouble_J (m_dt S))]) (rest := []) ⟨hx, hb, hml, hown, hts⟩ (c_M_told_J l _ (f_M_toDouble_J (m_dt S))) pu_pre (gw_call (k := 1) hts tw_647 tw_648 tw_4 tw_649 (by decide +kernel) rfl rfl ⟨Nat.le_of_ble_eq_true rfl, Nat.le_of_ble_eq_true rfl⟩) rfl hl.1 rfl (Nat.le_of_ble_eq_true rfl) ⟨Nat.zero_le _, Nat.zero_le _⟩ d_M_about_I_71 ?_
          exact hg_lret hx hb hr hlocks hK hAe G (by have e9 : f_M_about_I S x1 = _ := (Eq.trans (if_neg c1) (Eq.trans (if_neg c2) (Eq.trans (if_neg c3) (if_pos c4)))); exact ⟨Eq.symm e9, rfl⟩) d_M_about_I_74
        · skip
          by_cases c5 : x1 = 4
          · refine lv_tableIn (off := 74) (tgt := 75) hx hb d_M_about_I_1 (by rw [c5]; decide) (by rw [c5]; decide) (by rw [c5]; rfl) (by decide) ?_
            refine lv_aload_n hx hb d_M_about_I_75 rfl (lv_at hl 0 rfl) ?_
            refine va_get (D := (dC, dI)) (ci := 3) (v := .long (m_wall S)) (C := R_M) (T := F_M) (N := 21) hx hb hts (fun w h => gm (i_M w h)) hown hK G.1 0 rfl rfl 12 (by decide) (hts _ (gm tw_433)) (fun _ h9 => h9) rfl d_M_about_I_76 ?_
            refine pu_l (As := [.long (m_wall S)]) (rest := []) ⟨hx, hb, hml, hown, hts⟩ (c_M_told_J l _ (m_wall S)) pu_pre (gw_call (k := 1) hts tw_647 tw_648 tw_4 tw_649 (by decide +kernel) rfl rfl ⟨Nat.le_of_ble_eq_true rfl, Nat.le_of_ble_eq_true rfl⟩) rfl hl.1 rfl (Nat.le_of_ble_eq_true rfl) ⟨Nat.zero_le _, Nat.zero_le _⟩ d_M_about_I_79 ?_
            exact hg_lret hx hb hr hlocks hK hAe G (by have e9 : f_M_about_I S x1 = _ := (Eq.trans (if_neg c1) (Eq.trans (if_neg c2) (Eq.trans (if_neg c3) (Eq.trans (if_neg c4) (if_pos c5))))); exact ⟨Eq.symm e9, rfl⟩) d_M_about_I_82
          · skip
            by_cases c6 : x1 = 5
            · refine lv_tableIn (off := 82) (tgt := 83) hx hb d_M_about_I_1 (by rw [c6]; decide) (by rw [c6]; decide) (by rw [c6]; rfl) (by decide) ?_
              refine lv_aload_n hx hb d_M_about_I_83 rfl (lv_at hl 0 rfl) ?_
              refine va_get (D := (dC, dI)) (ci := 3) (v := .long (m_back S)) (C := R_M) (T := F_M) (N := 21) hx hb hts (fun w h => gm (i_M w h)) hown hK G.1 0 rfl rfl 13 (by decide) (hts _ (gm tw_434)) (fun _ h9 => h9) rfl d_M_about_I_84 ?_
              refine pu_l (As := [.long (m_back S)]) (rest := []) ⟨hx, hb, hml, hown, hts⟩ (c_M_toDouble_J l _ t0 t1 t2 (m_back S)) (pr_pre (hx_R hRT G)) (gw_call (k := 1) hts tw_570 tw_571 tw_4 tw_572 (by decide +kernel) rfl rfl ⟨Nat.le_of_ble_eq_true rfl, Nat.le_of_ble_eq_true rfl⟩) rfl hl.1 rfl (Nat.le_of_ble_eq_true rfl) ⟨Nat.zero_le _, Nat.zero_le _⟩ d_M_about_I_87 ?_
              refine pu_l (As := [.long (f_M_toDouble_J (m_back S))]) (rest := []) ⟨hx, hb, hml, hown, hts⟩ (c_M_told_J l _ (f_M_toDouble_J (m_back S))) pu_pre (gw_call (k := 1) hts tw_647 tw_648 tw_4 tw_649 (by decide +kernel) rfl rfl ⟨Nat.le_of_ble_eq_true rfl, Nat.le_of_ble_eq_true rfl⟩) rfl hl.1 rfl (Nat.le_of_ble_eq_true rfl) ⟨Nat.zero_le _, Nat.zero_le _⟩ d_M_about_I_90 ?_
              exact hg_lret hx hb hr hlocks hK hAe G (by have e9 : f_M_about_I S x1 = _ := (Eq.trans (if_neg c1) (Eq.trans (if_neg c2) (Eq.trans (if_neg c3) (Eq.trans (if_neg c4) (Eq.trans (if_neg c5) (if_pos c6)))))); exact ⟨Eq.symm e9, rfl⟩) d_M_about_I_93
            · skip
              refine lv_tableOut (tgt := 94) hx hb d_M_about_I_1 (sw_out (fun j h1 h2 e => by rcases (show j = 0 ∨ j = 1 ∨ j = 2 ∨ j = 3 ∨ j = 4 ∨ j = 5 by omega) with rfl | rfl | rfl | rfl | rfl | rfl <;> first | exact c1 (Int32.toInt_inj.mp (e.trans (by decide))) | exact c2 (Int32.toInt_inj.mp (e.trans (by decide))) | exact c3 (Int32.toInt_inj.mp (e.trans (by decide))) | exact c4 (Int32.toInt_inj.mp (e.trans (by decide))) | exact c5 (Int32.toInt_inj.mp (e.trans (by decide))) | exact c6 (Int32.toInt_inj.mp (e.trans (by decide))))) (by decide) ?_
              refine lv_lconst (v := (1 : Int64)) hx hb d_M_about_I_94 (by decide) ?_
              exact hg_lret hx hb hr hlocks hK hAe G (by have e9 : f_M_about_I S x1 = _ := (Eq.trans (if_neg c1) (Eq.trans (if_neg c2) (Eq.trans (if_neg c3) (Eq.trans (if_neg c4) (Eq.trans (if_neg c5) (if_neg c6)))))); exact ⟨Eq.symm e9, rfl⟩) d_M_about_I_95
-- ===== MotionLabModel.keep(IJ)I 
abbrev y_M_keep_IJ : MethodName := ⟨"MotionLabModel", "keep", "(IJ)I"⟩
abbrev b_M_keep_IJ : ByteArray := prog_6_method_48_code
theorem d_M_keep_IJ_0 : decode b_M_keep_IJ 0 = .ok (.iload_n 1, 1) := by decide +kernel
theorem d_M_keep_IJ_1 : decode b_M_keep_IJ 1 = .ok (.bipush 8, 2) := by decide +kernel
theorem d_M_keep_IJ_3 : decode b_M_keep_IJ 3 = .ok (.invokestatic 190, 3) := by decide +kernel
theorem d_M_keep_IJ_6 : decode b_M_keep_IJ 6 = .ok (.ifCond .ne 5, 3) := by decide +kernel
theorem d_M_keep_IJ_9 : decode b_M_keep_IJ 9 = .ok (.iconst (-1), 1) := by decide +kernel
theorem d_M_keep_IJ_10 : decode b_M_keep_IJ 10 = .ok (.ireturn, 1) := by decide +kernel
theorem d_M_keep_IJ_11 : decode b_M_keep_IJ 11 = .ok (.aload_n 0, 1) := by decide +kernel
theorem d_M_keep_IJ_12 : decode b_M_keep_IJ 12 = .ok (.getfield 187, 3) := by decide +kernel
theorem d_M_keep_IJ_15 : decode b_M_keep_IJ 15 = .ok (.iload_n 1, 1) := by decide +kernel
theorem d_M_keep_IJ_16 : decode b_M_keep_IJ 16 = .ok (.lload_n 2, 1) := by decide +kernel
theorem d_M_keep_IJ_17 : decode b_M_keep_IJ 17 = .ok (.lastore, 1) := by decide +kernel
theorem d_M_keep_IJ_18 : decode b_M_keep_IJ 18 = .ok (.iconst 0, 1) := by decide +kernel
theorem d_M_keep_IJ_19 : decode b_M_keep_IJ 19 = .ok (.ireturn, 1) := by decide +kernel
def f_M_keep_IJ (S : MS) (x1 : Int32) (x2 : Int64) : Int32 × MS :=
  if (f_M_in_II x1 (8 : Int32)) = 0 then
    ((-1 : Int32), S)
  else
    let S2 : MS := u_m_store S (vp_updL (m_store S) x1.toNatClampNeg x2)
    ((0 : Int32), S2)
set_option maxHeartbeats 4000000 in
set_option maxRecDepth 100000 in
theorem c_M_keep_IJ (l : Launch) (dC : Nat → ClassId) (dI : Nat → Nat → Nat) (ad : Nat → Nat) (cJ cI : ClassId) (t0 t1 t2 : Nat) (S : MS) (x1 : Int32) (x2 : Int64) (sz : Nat) : hMi l y_M_keep_IJ (gw y_M_keep_IJ b_M_keep_IJ 4 (some .int)) { frames := 1, cells := 0, slots := 0, locals := 21 } [.ref (ad 0), .int x1, .long x2] (dC, dI) classes (tysJI cJ cI) (hE_M t0 t1 t2 (mW ad cJ cI S) sz) (mW ad cJ cI S) sz (f_M_keep_IJ S x1 x2).1 (mW ad cJ cI (f_M_keep_IJ S x1 x2).2) := by
  refine Met.ofW (cc := b_M_keep_IJ) (maxL := 4) (ret := (some .int)) (by decide) rfl ?_
  intro p e s m args below meth c s₁ B hml hv
  obtain ⟨rfl, hsz, hP, hK, hD0, hRT⟩ := hv
  have hx := B.exec
  have hb := B.bytes
  have hr := B.returns
  have hts := atoms_spec (ws := (gw y_M_keep_IJ b_M_keep_IJ 4 (some .int))) B.pre
  have hown : s.vm.findClass "MotionLabModel" = some m.cls := findClass_of_methodNamed B.named
  have hlocks := B.notSynchronized
  subst hsz
  have hD := hD0.self (sz := s.heap.size)
  have hRT : RTA t0 t1 t2 (va_A (mW ad cJ cI S) s.heap.size) s s.heap := hRT
  generalize hAe : va_A (mW ad cJ cI S) s.heap.size = A at hD hRT
  have hA : ∀ q : Nat, s.heap.size ≤ q → A q := fun q h => by rw [← hAe]; exact Or.inr h
  have G : hG (dC, dI) classes A s.heap (mW ad cJ cI S) s.heap [] := ⟨hP, hD, va_S.rf⟩
  have hl := lv_entry ([.ref (ad 0), .int x1, .long x2]) (n := 4) (Nat.le_of_ble_eq_true rfl)
  rw [lg_entry_eq]
  generalize (lg_sl ([.ref (ad 0), .int x1, .long x2]) ++ List.replicate (4 - (lg_sl ([.ref (ad 0), .int x1, .long x2])).length) Slot.unset).toArray = ls at hl ⊢
  have hl : lv_has ls 4 [(0, .ref (ad 0)), (1, .int x1), (2, .long x2)] := hl
  refine lv_iload_n hx hb d_M_keep_IJ_0 rfl (lv_at hl 1 rfl) ?_
  refine lv_bipush (v := (8 : Int32)) hx hb d_M_keep_IJ_1 (by decide) ?_
  refine pu_i (As := [.int x1, .int (8 : Int32)]) (rest := []) ⟨hx, hb, hml, hown, hts⟩ (c_M_in_II l _ x1 (8 : Int32)) pu_pre (gw_call (k := 2) hts tw_489 tw_490 tw_4 tw_491 (by decide +kernel) rfl rfl ⟨Nat.le_of_ble_eq_true rfl, Nat.le_of_ble_eq_true rfl⟩) rfl hl.1 rfl (Nat.le_of_ble_eq_true rfl) ⟨Nat.zero_le _, Nat.zero_le _⟩ d_M_keep_IJ_3 ?_
  refine lv_if_ne (tgt := 11) hx hb d_M_keep_IJ_6 (by decide) (fun c1 => ?_) (fun c1 => ?_)
  · refine lv_aload_n hx hb d_M_keep_IJ_11 rfl (lv_at hl 0 rfl) ?_
    refine va_get (D := (dC, dI)) (ci := 3) (v := .ref (ad 14)) (C := R_M) (T := F_M) (N := 21) hx hb hts (fun w h => gm (i_M w h)) hown hK G.1 0 rfl rfl 20 (by decide) (hts _ (gm tw_441)) (fun _ h9 => h9) rfl d_M_keep_IJ_12 ?_
    refine lv_iload_n hx hb d_M_keep_IJ_15 rfl (lv_at hl 1 rfl) ?_
    refine lv_lload_n hx hb d_M_keep_IJ_16 rfl (lv_at hl 2 rfl) ?_
    obtain ⟨S2, e2⟩ : ∃ z : MS, z = u_m_store S (vp_updL (m_store S) x1.toNatClampNeg x2) := ⟨_, rfl⟩
    refine hg_last hx hb hK G 14 0 rfl rfl (in_in c1 (by decide) (by decide)) d_M_keep_IJ_17 (mW ad cJ cI S2) (by rw [e2]; rfl) (fun H locs G => ?_)
    refine lv_iconst (v := 0) hx hb d_M_keep_IJ_18 (by decide) ?_
    exact hg_iret hx hb hr hlocks hK hAe G (by have qe2 := e2.symm; subst qe2; have e9 : f_M_keep_IJ S x1 x2 = _ := (if_neg c1); exact ⟨Eq.symm (congrArg Prod.fst e9), Eq.symm (congrArg (fun z => mW ad cJ cI z.2) e9)⟩) d_M_keep_IJ_19
  · refine lv_iconst (v := (-1)) hx hb d_M_keep_IJ_9 (by decide) ?_
    exact hg_iret hx hb hr hlocks hK hAe G (by have e9 : f_M_keep_IJ S x1 x2 = _ := (if_pos c1); exact ⟨Eq.symm (congrArg Prod.fst e9), Eq.symm (congrArg (fun z => mW ad cJ cI z.2) e9)⟩) d_M_keep_IJ_10
-- ===== MotionLabModel.reckon(IIII)J 
abbrev y_M_reckon_IIII : MethodName := ⟨"MotionLabModel", "reckon", "(IIII)J"⟩
abbrev b_M_reckon_IIII : ByteArray := prog_6_method_51_code
theorem d_M_reckon_IIII_0 : decode b_M_reckon_IIII 0 = .ok (.iload_n 1, 1) := by decide +kernel
theorem d_M_reckon_IIII_1 : decode b_M_reckon_IIII 1 = .ok (.bipush 15, 2) := by decide +kernel
theorem d_M_reckon_IIII_3 : decode b_M_reckon_IIII 3 = .ok (.invokestatic 190, 3) := by decide +kernel
theorem d_M_reckon_IIII_6 : decode b_M_reckon_IIII 6 = .ok (.ifCond .eq 31, 3) := by decide +kernel
theorem d_M_reckon_IIII_9 : decode b_M_reckon_IIII 9 = .ok (.iload_n 2, 1) := by decide +kernel
theorem d_M_reckon_IIII_10 : decode b_M_reckon_IIII 10 = .ok (.bipush 8, 2) := by decide +kernel
theorem d_M_reckon_IIII_12 : decode b_M_reckon_IIII 12 = .ok (.invokestatic 190, 3) := by decide +kernel
theorem d_M_reckon_IIII_15 : decode b_M_reckon_IIII 15 = .ok (.ifCond .eq 22, 3) := by decide +kernel
theorem d_M_reckon_IIII_18 : decode b_M_reckon_IIII 18 = .ok (.iload_n 3, 1) := by decide +kernel
theorem d_M_reckon_IIII_19 : decode b_M_reckon_IIII 19 = .ok (.bipush 8, 2) := by decide +kernel
theorem d_M_reckon_IIII_21 : decode b_M_reckon_IIII 21 = .ok (.invokestatic 190, 3) := by decide +kernel
theorem d_M_reckon_IIII_24 : decode b_M_reckon_IIII 24 = .ok (.ifCond .eq 13, 3) := by decide +kernel
theorem d_M_reckon_IIII_27 : decode b_M_reckon_IIII 27 = .ok (.iload 4, 2) := by decide +kernel
theorem d_M_reckon_IIII_29 : decode b_M_reckon_IIII 29 = .ok (.bipush 8, 2) := by decide +kernel
theorem d_M_reckon_IIII_31 : decode b_M_reckon_IIII 31 = .ok (.invokestatic 190, 3) := by decide +kernel
theorem d_M_reckon_IIII_34 : decode b_M_reckon_IIII 34 = .ok (.ifCond .ne 5, 3) := by decide +kernel
theorem d_M_reckon_IIII_37 : decode b_M_reckon_IIII 37 = .ok (.lconst 1, 1) := by decide +kernel
theorem d_M_reckon_IIII_38 : decode b_M_reckon_IIII 38 = .ok (.lreturn, 1) := by decide +kernel
theorem d_M_reckon_IIII_39 : decode b_M_reckon_IIII 39 = .ok (.aload_n 0, 1) := by decide +kernel
theorem d_M_reckon_IIII_40 : decode b_M_reckon_IIII 40 = .ok (.getfield 187, 3) := by decide +kernel
theorem d_M_reckon_IIII_43 : decode b_M_reckon_IIII 43 = .ok (.iload_n 2, 1) := by decide +kernel
theorem d_M_reckon_IIII_44 : decode b_M_reckon_IIII 44 = .ok (.iload_n 1, 1) := by decide +kernel
theorem d_M_reckon_IIII_45 : decode b_M_reckon_IIII 45 = .ok (.aload_n 0, 1) := by decide +kernel
theorem d_M_reckon_IIII_46 : decode b_M_reckon_IIII 46 = .ok (.getfield 187, 3) := by decide +kernel
theorem d_M_reckon_IIII_49 : decode b_M_reckon_IIII 49 = .ok (.iload_n 3, 1) := by decide +kernel
theorem d_M_reckon_IIII_50 : decode b_M_reckon_IIII 50 = .ok (.laload, 1) := by decide +kernel
theorem d_M_reckon_IIII_51 : decode b_M_reckon_IIII 51 = .ok (.aload_n 0, 1) := by decide +kernel
theorem d_M_reckon_IIII_52 : decode b_M_reckon_IIII 52 = .ok (.getfield 187, 3) := by decide +kernel
theorem d_M_reckon_IIII_55 : decode b_M_reckon_IIII 55 = .ok (.iload 4, 2) := by decide +kernel
theorem d_M_reckon_IIII_57 : decode b_M_reckon_IIII 57 = .ok (.laload, 1) := by decide +kernel
theorem d_M_reckon_IIII_58 : decode b_M_reckon_IIII 58 = .ok (.invokestatic 261, 3) := by decide +kernel
theorem d_M_reckon_IIII_61 : decode b_M_reckon_IIII 61 = .ok (.lastore, 1) := by decide +kernel
theorem d_M_reckon_IIII_62 : decode b_M_reckon_IIII 62 = .ok (.aload_n 0, 1) := by decide +kernel
theorem d_M_reckon_IIII_63 : decode b_M_reckon_IIII 63 = .ok (.getfield 187, 3) := by decide +kernel
theorem d_M_reckon_IIII_66 : decode b_M_reckon_IIII 66 = .ok (.iload_n 2, 1) := by decide +kernel
theorem d_M_reckon_IIII_67 : decode b_M_reckon_IIII 67 = .ok (.laload, 1) := by decide +kernel
theorem d_M_reckon_IIII_68 : decode b_M_reckon_IIII 68 = .ok (.invokestatic 251, 3) := by decide +kernel
theorem d_M_reckon_IIII_71 : decode b_M_reckon_IIII 71 = .ok (.lreturn, 1) := by decide +kernel
def f_M_reckon_IIII (S : MS) (x1 : Int32) (x2 : Int32) (x3 : Int32) (x4 : Int32) : Int64 × MS :=
  if (f_M_in_II x1 (15 : Int32)) = 0 then
    ((1 : Int64), S)
  else
    if (f_M_in_II x2 (8 : Int32)) = 0 then
      ((1 : Int64), S)
    else
      if (f_M_in_II x3 (8 : Int32)) = 0 then
        ((1 : Int64), S)
      else
        if (f_M_in_II x4 (8 : Int32)) = 0 then
          ((1 : Int64), S)
        else
          let S5 : MS := u_m_store S (vp_updL (m_store S) x2.toNatClampNeg (f_M_reckoned_IJJ x1 (m_store S x3.toNatClampNeg) (m_store S x4.toNatClampNeg)))
          (f_M_told_J (m_store S5 x2.toNatClampNeg), S5)
set_option maxHeartbeats 4000000 in
set_option maxRecDepth 100000 in
theorem c_M_reckon_IIII (l : Launch) (dC : Nat → ClassId) (dI : Nat → Nat → Nat) (ad : Nat → Nat) (cJ cI : ClassId) (t0 t1 t2 : Nat) (S : MS) (x1 : Int32) (x2 : Int32) (x3 : Int32) (x4 : Int32) (sz : Nat) : hMl l y_M_reckon_IIII (gw y_M_reckon_IIII b_M_reckon_IIII 5 (some .long)) { frames := 7, cells := 0, slots := 0, locals := 193 } [.ref (ad 0), .int x1, .int x2, .int x3, .int x4] (dC, dI) classes (tysJI cJ cI) (hE_M t0 t1 t2 (mW ad cJ cI S) sz) (mW ad cJ cI S) sz (f_M_reckon_IIII S x1 x2 x3 x4).1 (mW ad cJ cI (f_M_reckon_IIII S x1 x2 x3 x4).2) := by
  refine Met.ofW (cc := b_M_reckon_IIII) (maxL := 5) (ret := (some .long)) (by decide) rfl ?_
  intro p e s m args below meth c s₁ B hml hv
  obtain ⟨rfl, hsz, hP, hK, hD0, hRT⟩ := hv
  have hx := B.exec
  have hb := B.bytes
  have hr := B.returns
  have hts := atoms_spec (ws := (gw y_M_reckon_IIII b_M_reckon_IIII 5 (some .long))) B.pre
  have hown : s.vm.findClass "MotionLabModel" = some m.cls := findClass_of_methodNamed B.named
  have hlocks := B.notSynchronized
  subst hsz
  have hD := hD0.self (sz := s.heap.size)
  have hRT : RTA t0 t1 t2 (va_A (mW ad cJ cI S) s.heap.size) s s.heap := hRT
  generalize hAe : va_A (mW ad cJ cI S) s.heap.size = A at hD hRT
  have hA : ∀ q : Nat, s.heap.size ≤ q → A q := fun q h => by rw [← hAe]; exact Or.inr h
  have G : hG (dC, dI) classes A s.heap (mW ad cJ cI S) s.heap [] := ⟨hP, hD, va_S.rf⟩
  have hl := lv_entry ([.ref (ad 0), .int x1, .int x2, .int x3, .int x4]) (n := 5) (Nat.le_of_ble_eq_true rfl)
  rw [lg_entry_eq]
  generalize (lg_sl ([.ref (ad 0), .int x1, .int x2, .int x3, .int x4]) ++ List.replicate (5 - (lg_sl ([.ref (ad 0), .int x1, .int x2, .int x3, .int x4])).length) Slot.unset).toArray = ls at hl ⊢
  have hl : lv_has ls 5 [(0, .ref (ad 0)), (1, .int x1), (2, .int x2), (3, .int x3), (4, .int x4)] := hl
  refine lv_iload_n hx hb d_M_reckon_IIII_0 rfl (lv_at hl 1 rfl) ?_
  refine lv_bipush (v := (15 : Int32)) hx hb d_M_reckon_IIII_1 (by decide) ?_
  refine pu_i (As := [.int x1, .int (15 : Int32)]) (rest := []) ⟨hx, hb, hml, hown, hts⟩ (c_M_in_II l _ x1 (15 : Int32)) pu_pre (gw_call (k := 2) hts tw_489 tw_490 tw_4 tw_491 (by decide +kernel) rfl rfl ⟨Nat.le_of_ble_eq_true rfl, Nat.le_of_ble_eq_true rfl⟩) rfl hl.1 rfl (Nat.le_of_ble_eq_true rfl) ⟨Nat.zero_le _, Nat.zero_le _⟩ d_M_reckon_IIII_3 ?_
  refine lv_if_eq (tgt := 37) hx hb d_M_reckon_IIII_6 (by decide) (fun c1 => ?_) (fun c1 => ?_)
  · refine lv_lconst (v := (1 : Int64)) hx hb d_M_reckon_IIII_37 (by decide) ?_
    exact hg_lret hx hb hr hlocks hK hAe G (by have e9 : f_M_reckon_IIII S x1 x2 x3 x4 = _ := (if_pos c1); exact ⟨Eq.symm (congrArg Prod.fst e9), Eq.symm (congrArg (fun z => mW ad cJ cI z.2) e9)⟩) d_M_reckon_IIII_38
  · refine lv_iload_n hx hb d_M_reckon_IIII_9 rfl (lv_at hl 2 rfl) ?_
    refine lv_bipush (v := (8 : Int32)) hx hb d_M_reckon_IIII_10 (by decide) ?_
    refine pu_i (As := [.int x2, .int (8 : Int32)]) (rest := []) ⟨hx, hb, hml, hown, hts⟩ (c_M_in_II l _ x2 (8 : Int32)) pu_pre (gw_call (k := 2) hts tw_489 tw_490 tw_4 tw_491 (by decide +kernel) rfl rfl ⟨Nat.le_of_ble_eq_true rfl, Nat.le_of_ble_eq_true rfl⟩) rfl hl.1 rfl (Nat.le_of_ble_eq_true rfl) ⟨Nat.zero_le _, Nat.zero_le _⟩ d_M_reckon_IIII_12 ?_
    refine lv_if_eq (tgt := 37) hx hb d_M_reckon_IIII_15 (by decide) (fun c2 => ?_) (fun c2 => ?_)
    · refine lv_lconst (v := (1 : Int64)) hx hb d_M_reckon_IIII_37 (by decide) ?_
      exact hg_lret hx hb hr hlocks hK hAe G (by have e9 : f_M_reckon_IIII S x1 x2 x3 x4 = _ := (Eq.trans (if_neg c1) (if_pos c2)); exact ⟨Eq.symm (congrArg Prod.fst e9), Eq.symm (congrArg (fun z => mW ad cJ cI z.2) e9)⟩) d_M_reckon_IIII_38
    · refine lv_iload_n hx hb d_M_reckon_IIII_18 rfl (lv_at hl 3 rfl) ?_
      refine lv_bipush (v := (8 : Int32)) hx hb d_M_reckon_IIII_19 (by decide) ?_
      refine pu_i (As := [.int x3, .int (8 : Int32)]) (rest := []) ⟨hx, hb, hml, hown, hts⟩ (c_M_in_II l _ x3 (8 : Int32)) pu_pre (gw_call (k := 2) hts tw_489 tw_490 tw_4 tw_491 (by decide +kernel) rfl rfl ⟨Nat.le_of_ble_eq_true rfl, Nat.le_of_ble_eq_true rfl⟩) rfl hl.1 rfl (Nat.le_of_ble_eq_true rfl) ⟨Nat.zero_le _, Nat.zero_le _⟩ d_M_reckon_IIII_21 ?_
      refine lv_if_eq (tgt := 37) hx hb d_M_reckon_IIII_24 (by decide) (fun c3 => ?_) (fun c3 => ?_)
      · refine lv_lconst (v := (1 : Int64)) hx hb d_M_reckon_IIII_37 (by decide) ?_
        exact hg_lret hx hb hr hlocks hK hAe G (by have e9 : f_M_reckon_IIII S x1 x2 x3 x4 = _ := (Eq.trans (if_neg c1) (Eq.trans (if_neg c2) (if_pos c3))); exact ⟨Eq.symm (congrArg Prod.fst e9), Eq.symm (congrArg (fun z => mW ad cJ cI z.2) e9)⟩) d_M_reckon_IIII_38
      · refine lv_iload hx hb d_M_reckon_IIII_27 (lv_at hl 4 rfl) ?_
        refine lv_bipush (v := (8 : Int32)) hx hb d_M_reckon_IIII_29 (by decide) ?_
        refine pu_i (As := [.int x4, .int (8 : Int32)]) (rest := []) ⟨hx, hb, hml, hown, hts⟩ (c_M_in_II l _ x4 (8 : Int32)) pu_pre (gw_call (k := 2) hts tw_489 tw_490 tw_4 tw_491 (by decide +kernel) rfl rfl ⟨Nat.le_of_ble_eq_true rfl, Nat.le_of_ble_eq_true rfl⟩) rfl hl.1 rfl (Nat.le_of_ble_eq_true rfl) ⟨Nat.zero_le _, Nat.zero_le _⟩ d_M_reckon_IIII_31 ?_
        refine lv_if_ne (tgt := 39) hx hb d_M_reckon_IIII_34 (by decide) (fun c4 => ?_) (fun c4 => ?_)
        · refine lv_aload_n hx hb d_M_reckon_IIII_39 rfl (lv_at hl 0 rfl) ?_
          refine va_get (D := (dC, dI)) (ci := 3) (v := .ref (ad 14)) (C := R_M) (T := F_M) (N := 21) hx hb hts (fun w h => gm (i_M w h)) hown hK G.1 0 rfl rfl 20 (by decide) (hts _ (gm tw_441)) (fun _ h9 => h9) rfl d_M_reckon_IIII_40 ?_
          refine lv_iload_n hx hb d_M_reckon_IIII_43 rfl (lv_at hl 2 rfl) ?_
          refine lv_iload_n hx hb d_M_reckon_IIII_44 rfl (lv_at hl 1 rfl) ?_
          refine lv_aload_n hx hb d_M_reckon_IIII_45 rfl (lv_at hl 0 rfl) ?_
          refine va_get (D := (dC, dI)) (ci := 3) (v := .ref (ad 14)) (C := R_M) (T := F_M) (N := 21) hx hb hts (fun w h => gm (i_M w h)) hown hK G.1 0 rfl rfl 20 (by decide) (hts _ (gm tw_441)) (fun _ h9 => h9) rfl d_M_reckon_IIII_46 ?_
          refine lv_iload_n hx hb d_M_reckon_IIII_49 rfl (lv_at hl 3 rfl) ?_
          refine va_lald hx hb hK G.1 14 0 rfl rfl (in_in c3 (by decide) (by decide)) d_M_reckon_IIII_50 ?_
          refine lv_aload_n hx hb d_M_reckon_IIII_51 rfl (lv_at hl 0 rfl) ?_
          refine va_get (D := (dC, dI)) (ci := 3) (v := .ref (ad 14)) (C := R_M) (T := F_M) (N := 21) hx hb hts (fun w h => gm (i_M w h)) hown hK G.1 0 rfl rfl 20 (by decide) (hts _ (gm tw_441)) (fun _ h9 => h9) rfl d_M_reckon_IIII_52 ?_
          refine lv_iload hx hb d_M_reckon_IIII_55 (lv_at hl 4 rfl) ?_
          refine va_lald hx hb hK G.1 14 0 rfl rfl (in_in c4 (by decide) (by decide)) d_M_reckon_IIII_57 ?_
          refine pu_l (As := [.int x1, .long (m_store S x3.toNatClampNeg), .long (m_store S x4.toNatClampNeg)]) (rest := [.int x2, .ref (ad 14)]) ⟨hx, hb, hml, hown, hts⟩ (c_M_reckoned_IJJ l _ t0 t1 t2 x1 (m_store S x3.toNatClampNeg) (m_store S x4.toNatClampNeg)) (pr_pre (hx_R hRT G)) (gw_call (k := 3) hts tw_662 tw_663 tw_4 tw_664 (by decide +kernel) rfl rfl ⟨Nat.le_of_ble_eq_true rfl, Nat.le_of_ble_eq_true rfl⟩) rfl hl.1 rfl (Nat.le_of_ble_eq_true rfl) ⟨Nat.zero_le _, Nat.zero_le _⟩ d_M_reckon_IIII_58 ?_
          obtain ⟨S5, e5⟩ : ∃ z : MS, z = u_m_store S (vp_updL (m_store S) x2.toNatClampNeg (f_M_reckoned_IJJ x1 (m_store S x3.toNatClampNeg) (m_store S x4.toNatClampNeg))) := ⟨_, rfl⟩
          refine hg_last hx hb hK G 14 0 rfl rfl (in_in c2 (by decide) (by decide)) d_M_reckon_IIII_61 (mW ad cJ cI S5) (by rw [e5]; rfl) (fun H locs G => ?_)
          refine lv_aload_n hx hb d_M_reckon_IIII_62 rfl (lv_at hl 0 rfl) ?_
          refine va_get (D := (dC, dI)) (ci := 3) (v := .ref (ad 14)) (C := R_M) (T := F_M) (N := 21) hx hb hts (fun w h => gm (i_M w h)) hown hK G.1 0 rfl rfl 20 (by decide) (hts _ (gm tw_441)) (fun _ h9 => h9) rfl d_M_reckon_IIII_63 ?_
          refine lv_iload_n hx hb d_M_reckon_IIII_66 rfl (lv_at hl 2 rfl) ?_
          refine va_lald hx hb hK G.1 14 0 rfl rfl (in_in c2 (by decide) (by decide)) d_M_reckon_IIII_67 ?_
          refine pu_l (As := [.long (m_store S5 x2.toNatClampNeg)]) (rest := []) ⟨hx, hb, hml, hown, hts⟩ (c_M_told_J l _ (m_store S5 x2.toNatClampNeg)) pu_pre (gw_call (k := 1) hts tw_647 tw_648 tw_4 tw_649 (by decide +kernel) rfl rfl ⟨Nat.le_of_ble_eq_true rfl, Nat.le_of_ble_eq_true rfl⟩) rfl hl.1 rfl (Nat.le_of_ble_eq_true rfl) ⟨Nat.zero_le _, Nat.zero_le _⟩ d_M_reckon_IIII_68 ?_
          exact hg_lret hx hb hr hlocks hK hAe G (by have qe5 := e5.symm; subst qe5; have e9 : f_M_reckon_IIII S x1 x2 x3 x4 = _ := (Eq.trans (if_neg c1) (Eq.trans (if_neg c2) (Eq.trans (if_neg c3) (if_neg c4)))); exact ⟨Eq.symm (congrArg Prod.fst e9), Eq.symm (congrArg (fun z => mW ad cJ cI z.2) e9)⟩) d_M_reckon_IIII_71
        · refine lv_lconst (v := (1 : Int64)) hx hb d_M_reckon_IIII_37 (by decide) ?_
          exact hg_lret hx hb hr hlocks hK hAe G (by have e9 : f_M_reckon_IIII S x1 x2 x3 x4 = _ := (Eq.trans (if_neg c1) (Eq.trans (if_neg c2) (Eq.trans (if_neg c3) (if_pos c4)))); exact ⟨Eq.symm (congrArg Prod.fst e9), Eq.symm (congrArg (fun z => mW ad cJ cI z.2) e9)⟩) d_M_reckon_IIII_38
-- ===== MotionLabModel.whole(IIJ)J 
abbrev y_M_whole_IIJ : MethodName := ⟨"MotionLabModel", "whole", "(IIJ)J"⟩
abbrev b_M_whole_IIJ : ByteArray := prog_6_method_52_code
theorem d_M_whole_IIJ_0 : decode b_M_whole_IIJ 0 = .ok (.iload_n 1, 1) := by decide +kernel
theorem d_M_whole_IIJ_1 : decode b_M_whole_IIJ 1 = .ok (.bipush 8, 2) := by decide +kernel
theorem d_M_whole_IIJ_3 : decode b_M_whole_IIJ 3 = .ok (.invokestatic 190, 3) := by decide +kernel
theorem d_M_whole_IIJ_6 : decode b_M_whole_IIJ 6 = .ok (.ifCond .eq 11, 3) := by decide +kernel
theorem d_M_whole_IIJ_9 : decode b_M_whole_IIJ 9 = .ok (.iload_n 2, 1) := by decide +kernel
theorem d_M_whole_IIJ_10 : decode b_M_whole_IIJ 10 = .ok (.iconst 2, 1) := by decide +kernel
theorem d_M_whole_IIJ_11 : decode b_M_whole_IIJ 11 = .ok (.invokestatic 190, 3) := by decide +kernel
theorem d_M_whole_IIJ_14 : decode b_M_whole_IIJ 14 = .ok (.ifCond .ne 5, 3) := by decide +kernel
theorem d_M_whole_IIJ_17 : decode b_M_whole_IIJ 17 = .ok (.lconst 1, 1) := by decide +kernel
theorem d_M_whole_IIJ_18 : decode b_M_whole_IIJ 18 = .ok (.lreturn, 1) := by decide +kernel
theorem d_M_whole_IIJ_19 : decode b_M_whole_IIJ 19 = .ok (.lload_n 3, 1) := by decide +kernel
theorem d_M_whole_IIJ_20 : decode b_M_whole_IIJ 20 = .ok (.ldc2_w 265, 3) := by decide +kernel
theorem d_M_whole_IIJ_23 : decode b_M_whole_IIJ 23 = .ok (.lcmp, 1) := by decide +kernel
theorem d_M_whole_IIJ_24 : decode b_M_whole_IIJ 24 = .ok (.ifCond .ne 7, 3) := by decide +kernel
theorem d_M_whole_IIJ_27 : decode b_M_whole_IIJ 27 = .ok (.iconst 1, 1) := by decide +kernel
theorem d_M_whole_IIJ_28 : decode b_M_whole_IIJ 28 = .ok (.goto 4, 3) := by decide +kernel
theorem d_M_whole_IIJ_31 : decode b_M_whole_IIJ 31 = .ok (.iconst 0, 1) := by decide +kernel
theorem d_M_whole_IIJ_32 : decode b_M_whole_IIJ 32 = .ok (.istore 5, 2) := by decide +kernel
theorem d_M_whole_IIJ_34 : decode b_M_whole_IIJ 34 = .ok (.iload 5, 2) := by decide +kernel
theorem d_M_whole_IIJ_36 : decode b_M_whole_IIJ 36 = .ok (.ifCond .eq 15, 3) := by decide +kernel
theorem d_M_whole_IIJ_39 : decode b_M_whole_IIJ 39 = .ok (.iconst 1, 1) := by decide +kernel
theorem d_M_whole_IIJ_40 : decode b_M_whole_IIJ 40 = .ok (.ldc2_w 125, 3) := by decide +kernel
theorem d_M_whole_IIJ_43 : decode b_M_whole_IIJ 43 = .ok (.iconst 1, 1) := by decide +kernel
theorem d_M_whole_IIJ_44 : decode b_M_whole_IIJ 44 = .ok (.iload_n 2, 1) := by decide +kernel
theorem d_M_whole_IIJ_45 : decode b_M_whole_IIJ 45 = .ok (.invokestatic 89, 3) := by decide +kernel
theorem d_M_whole_IIJ_48 : decode b_M_whole_IIJ 48 = .ok (.goto 23, 3) := by decide +kernel
theorem d_M_whole_IIJ_51 : decode b_M_whole_IIJ 51 = .ok (.lload_n 3, 1) := by decide +kernel
theorem d_M_whole_IIJ_52 : decode b_M_whole_IIJ 52 = .ok (.lconst 0, 1) := by decide +kernel
theorem d_M_whole_IIJ_53 : decode b_M_whole_IIJ 53 = .ok (.lcmp, 1) := by decide +kernel
theorem d_M_whole_IIJ_54 : decode b_M_whole_IIJ 54 = .ok (.ifCond .ge 7, 3) := by decide +kernel
theorem d_M_whole_IIJ_57 : decode b_M_whole_IIJ 57 = .ok (.iconst 1, 1) := by decide +kernel
theorem d_M_whole_IIJ_58 : decode b_M_whole_IIJ 58 = .ok (.goto 4, 3) := by decide +kernel
theorem d_M_whole_IIJ_61 : decode b_M_whole_IIJ 61 = .ok (.iconst 0, 1) := by decide +kernel
theorem d_M_whole_IIJ_62 : decode b_M_whole_IIJ 62 = .ok (.lload_n 3, 1) := by decide +kernel
theorem d_M_whole_IIJ_63 : decode b_M_whole_IIJ 63 = .ok (.invokestatic 267, 3) := by decide +kernel
theorem d_M_whole_IIJ_66 : decode b_M_whole_IIJ 66 = .ok (.iconst 0, 1) := by decide +kernel
theorem d_M_whole_IIJ_67 : decode b_M_whole_IIJ 67 = .ok (.iload_n 2, 1) := by decide +kernel
theorem d_M_whole_IIJ_68 : decode b_M_whole_IIJ 68 = .ok (.invokestatic 89, 3) := by decide +kernel
theorem d_M_whole_IIJ_71 : decode b_M_whole_IIJ 71 = .ok (.lstore 6, 2) := by decide +kernel
theorem d_M_whole_IIJ_73 : decode b_M_whole_IIJ 73 = .ok (.aload_n 0, 1) := by decide +kernel
theorem d_M_whole_IIJ_74 : decode b_M_whole_IIJ 74 = .ok (.getfield 187, 3) := by decide +kernel
theorem d_M_whole_IIJ_77 : decode b_M_whole_IIJ 77 = .ok (.iload_n 1, 1) := by decide +kernel
theorem d_M_whole_IIJ_78 : decode b_M_whole_IIJ 78 = .ok (.iload_n 2, 1) := by decide +kernel
theorem d_M_whole_IIJ_79 : decode b_M_whole_IIJ 79 = .ok (.ifCond .ne 8, 3) := by decide +kernel
theorem d_M_whole_IIJ_82 : decode b_M_whole_IIJ 82 = .ok (.lload 6, 2) := by decide +kernel
theorem d_M_whole_IIJ_84 : decode b_M_whole_IIJ 84 = .ok (.goto 8, 3) := by decide +kernel
theorem d_M_whole_IIJ_87 : decode b_M_whole_IIJ 87 = .ok (.lload 6, 2) := by decide +kernel
theorem d_M_whole_IIJ_89 : decode b_M_whole_IIJ 89 = .ok (.invokestatic 229, 3) := by decide +kernel
theorem d_M_whole_IIJ_92 : decode b_M_whole_IIJ 92 = .ok (.lastore, 1) := by decide +kernel
theorem d_M_whole_IIJ_93 : decode b_M_whole_IIJ 93 = .ok (.aload_n 0, 1) := by decide +kernel
theorem d_M_whole_IIJ_94 : decode b_M_whole_IIJ 94 = .ok (.getfield 187, 3) := by decide +kernel
theorem d_M_whole_IIJ_97 : decode b_M_whole_IIJ 97 = .ok (.iload_n 1, 1) := by decide +kernel
theorem d_M_whole_IIJ_98 : decode b_M_whole_IIJ 98 = .ok (.laload, 1) := by decide +kernel
theorem d_M_whole_IIJ_99 : decode b_M_whole_IIJ 99 = .ok (.invokestatic 251, 3) := by decide +kernel
theorem d_M_whole_IIJ_102 : decode b_M_whole_IIJ 102 = .ok (.lreturn, 1) := by decide +kernel
def f_M_whole_IIJ (S : MS) (x1 : Int32) (x2 : Int32) (x3 : Int64) : Int64 × MS :=
  if (f_M_in_II x1 (8 : Int32)) = 0 then
    ((1 : Int64), S)
  else
    if (f_M_in_II x2 (2 : Int32)) = 0 then
      ((1 : Int64), S)
    else
      if (lg_cmp x3 (-9223372036854775808 : Int64)) = 0 then
        let v13 : Int64 := f_M_exact_ZJII (1 : Int32) (4611686018427387904 : Int64) (1 : Int32) x2
        if x2 = 0 then
          let S16 : MS := u_m_store S (vp_updL (m_store S) x1.toNatClampNeg v13)
          (f_M_told_J (m_store S16 x1.toNatClampNeg), S16)
        else
          let S15 : MS := u_m_store S (vp_updL (m_store S) x1.toNatClampNeg (f_M_toDouble_J v13))
          (f_M_told_J (m_store S15 x1.toNatClampNeg), S15)
      else
        if 0 ≤ (lg_cmp x3 (0 : Int64)) then
          let v5 : Int64 := f_M_exact_ZJII (0 : Int32) (f_jM_abs_J x3) (0 : Int32) x2
          if x2 = 0 then
            let S8 : MS := u_m_store S (vp_updL (m_store S) x1.toNatClampNeg v5)
            (f_M_told_J (m_store S8 x1.toNatClampNeg), S8)
          else
            let S7 : MS := u_m_store S (vp_updL (m_store S) x1.toNatClampNeg (f_M_toDouble_J v5))
            (f_M_told_J (m_store S7 x1.toNatClampNeg), S7)
        else
          let v9 : Int64 := f_M_exact_ZJII (1 : Int32) (f_jM_abs_J x3) (0 : Int32) x2
          if x2 = 0 then
            let S12 : MS := u_m_store S (vp_updL (m_store S) x1.toNatClampNeg v9)
            (f_M_told_J (m_store S12 x1.toNatClampNeg), S12)
          else
            let S11 : MS := u_m_store S (vp_updL (m_store S) x1.toNatClampNeg (f_M_toDouble_J v9))
            (f_M_told_J (m_store S11 x1.toNatClampNeg), S11)
set_option maxHeartbeats 4000000 in
set_option maxRecDepth 100000 in
theorem c_M_whole_IIJ (l : Launch) (dC : Nat → ClassId) (dI : Nat → Nat → Nat) (ad : Nat → Nat) (cJ cI : ClassId) (t0 t1 t2 : Nat) (S : MS) (x1 : Int32) (x2 : Int32) (x3 : Int64) (sz : Nat) : hMl l y_M_whole_IIJ (gw y_M_whole_IIJ b_M_whole_IIJ 8 (some .long)) { frames := 6, cells := 0, slots := 0, locals := 145 } [.ref (ad 0), .int x1, .int x2, .long x3] (dC, dI) classes (tysJI cJ cI) (hE_M t0 t1 t2 (mW ad cJ cI S) sz) (mW ad cJ cI S) sz (f_M_whole_IIJ S x1 x2 x3).1 (mW ad cJ cI (f_M_whole_IIJ S x1 x2 x3).2) := by
  refine Met.ofW (cc := b_M_whole_IIJ) (maxL := 8) (ret := (some .long)) (by decide) rfl ?_
  intro p e s m args below meth c s₁ B hml hv
  obtain ⟨rfl, hsz, hP, hK, hD0, hRT⟩ := hv
  have hx := B.exec
  have hb := B.bytes
  have hr := B.returns
  have hts := atoms_spec (ws := (gw y_M_whole_IIJ b_M_whole_IIJ 8 (some .long))) B.pre
  have hown : s.vm.findClass "MotionLabModel" = some m.cls := findClass_of_methodNamed B.named
  have hlocks := B.notSynchronized
  subst hsz
  have hD := hD0.self (sz := s.heap.size)
  have hRT : RTA t0 t1 t2 (va_A (mW ad cJ cI S) s.heap.size) s s.heap := hRT
  generalize hAe : va_A (mW ad cJ cI S) s.heap.size = A at hD hRT
  have hA : ∀ q : Nat, s.heap.size ≤ q → A q := fun q h => by rw [← hAe]; exact Or.inr h
  have G : hG (dC, dI) classes A s.heap (mW ad cJ cI S) s.heap [] := ⟨hP, hD, va_S.rf⟩
  have hl := lv_entry ([.ref (ad 0), .int x1, .int x2, .long x3]) (n := 8) (Nat.le_of_ble_eq_true rfl)
  rw [lg_entry_eq]
  generalize (lg_sl ([.ref (ad 0), .int x1, .int x2, .long x3]) ++ List.replicate (8 - (lg_sl ([.ref (ad 0), .int x1, .int x2, .long x3])).length) Slot.unset).toArray = ls at hl ⊢
  have hl : lv_has ls 8 [(0, .ref (ad 0)), (1, .int x1), (2, .int x2), (3, .long x3)] := hl
  refine lv_iload_n hx hb d_M_whole_IIJ_0 rfl (lv_at hl 1 rfl) ?_
  refine lv_bipush (v := (8 : Int32)) hx hb d_M_whole_IIJ_1 (by decide) ?_
  refine pu_i (As := [.int x1, .int (8 : Int32)]) (rest := []) ⟨hx, hb, hml, hown, hts⟩ (c_M_in_II l _ x1 (8 : Int32)) pu_pre (gw_call (k := 2) hts tw_489 tw_490 tw_4 tw_491 (by decide +kernel) rfl rfl ⟨Nat.le_of_ble_eq_true rfl, Nat.le_of_ble_eq_true rfl⟩) rfl hl.1 rfl (Nat.le_of_ble_eq_true rfl) ⟨Nat.zero_le _, Nat.zero_le _⟩ d_M_whole_IIJ_3 ?_
  refine lv_if_eq (tgt := 17) hx hb d_M_whole_IIJ_6 (by decide) (fun c1 => ?_) (fun c1 => ?_)
  · refine lv_lconst (v := (1 : Int64)) hx hb d_M_whole_IIJ_17 (by decide) ?_
    exact hg_lret hx hb hr hlocks hK hAe G (by have e9 : f_M_whole_IIJ S x1 x2 x3 = _ := (if_pos c1); exact ⟨Eq.symm (congrArg Prod.fst e9), Eq.symm (congrArg (fun z => mW ad cJ cI z.2) e9)⟩) d_M_whole_IIJ_18
  · refine lv_iload_n hx hb d_M_whole_IIJ_9 rfl (lv_at hl 2 rfl) ?_
    refine lv_iconst (v := 2) hx hb d_M_whole_IIJ_10 (by decide) ?_
    refine pu_i (As := [.int x2, .int (2 : Int32)]) (rest := []) ⟨hx, hb, hml, hown, hts⟩ (c_M_in_II l _ x2 (2 : Int32)) pu_pre (gw_call (k := 2) hts tw_489 tw_490 tw_4 tw_491 (by decide +kernel) rfl rfl ⟨Nat.le_of_ble_eq_true rfl, Nat.le_of_ble_eq_true rfl⟩) rfl hl.1 rfl (Nat.le_of_ble_eq_true rfl) ⟨Nat.zero_le _, Nat.zero_le _⟩ d_M_whole_IIJ_11 ?_
    refine lv_if_ne (tgt := 19) hx hb d_M_whole_IIJ_14 (by decide) (fun c2 => ?_) (fun c2 => ?_)
    · refine lv_lload_n hx hb d_M_whole_IIJ_19 rfl (lv_at hl 3 rfl) ?_
      refine lv_ldc2 (v := (-9223372036854775808 : Int64)) hx hb hown (hts _ (gm tw_675)) d_M_whole_IIJ_20 ?_
      refine W.lcmp hx hb d_M_whole_IIJ_23 ?_
      refine lv_if_ne (tgt := 31) hx hb d_M_whole_IIJ_24 (by decide) (fun c3 => ?_) (fun c3 => ?_)
      · refine lv_iconst (v := 0) hx hb d_M_whole_IIJ_31 (by decide) ?_
        refine lv_istore (lv' := [(5, .int (0 : Int32)), (0, .ref (ad 0)), (1, .int x1), (2, .int x2), (3, .long x3)]) hx hb d_M_whole_IIJ_32 hl (by decide) rfl (fun ls hl => ?_)
        refine lv_iload hx hb d_M_whole_IIJ_34 (lv_at hl 0 rfl) ?_
        refine lv_if_eq (tgt := 51) hx hb d_M_whole_IIJ_36 (by decide) (fun _ => ?_) (fun c0 => absurd c0 (by decide))
        refine lv_lload_n hx hb d_M_whole_IIJ_51 rfl (lv_at hl 4 rfl) ?_
        refine lv_lconst (v := (0 : Int64)) hx hb d_M_whole_IIJ_52 (by decide) ?_
        refine W.lcmp hx hb d_M_whole_IIJ_53 ?_
        refine lv_if_ge (tgt := 61) hx hb d_M_whole_IIJ_54 (by decide) (fun c4 => ?_) (fun c4 => ?_)
        · refine lv_iconst (v := 0) hx hb d_M_whole_IIJ_61 (by decide) ?_
          refine lv_lload_n hx hb d_M_whole_IIJ_62 rfl (lv_at hl 4 rfl) ?_
          refine pu_l (As := [.long x3]) (rest := [.int (0 : Int32)]) ⟨hx, hb, hml, hown, hts⟩ (c_jM_abs_J l _ x3) pu_pre (gw_call (k := 1) hts tw_676 tw_333 tw_6 tw_334 (by decide +kernel) rfl rfl ⟨Nat.le_of_ble_eq_true rfl, Nat.le_of_ble_eq_true rfl⟩) rfl hl.1 rfl (Nat.le_of_ble_eq_true rfl) ⟨Nat.zero_le _, Nat.zero_le _⟩ d_M_whole_IIJ_63 ?_
          refine lv_iconst (v := 0) hx hb d_M_whole_IIJ_66 (by decide) ?_
          refine lv_iload_n hx hb d_M_whole_IIJ_67 rfl (lv_at hl 3 rfl) ?_
          refine pu_l (As := [.int (0 : Int32), .long (f_jM_abs_J x3), .int (0 : Int32), .int x2]) (rest := []) ⟨hx, hb, hml, hown, hts⟩ (c_M_exact_ZJII l _ t0 t1 t2 (0 : Int32) (f_jM_abs_J x3) (0 : Int32) x2 (in_in c2 (by decide) (by decide))) (pr_pre (hx_R hRT G)) (gw_call (k := 4) hts tw_536 tw_537 tw_4 tw_538 (by decide +kernel) rfl rfl ⟨Nat.le_of_ble_eq_true rfl, Nat.le_of_ble_eq_true rfl⟩) rfl hl.1 rfl (Nat.le_of_ble_eq_true rfl) ⟨Nat.zero_le _, Nat.zero_le _⟩ d_M_whole_IIJ_68 ?_
          refine lv_topl (fun v5 e5 => ?_)
          refine lv_lstore (lv' := [(6, .long v5), (5, .int (0 : Int32)), (0, .ref (ad 0)), (1, .int x1), (2, .int x2), (3, .long x3)]) hx hb d_M_whole_IIJ_71 hl (by decide) rfl (fun ls hl => ?_)
          refine lv_aload_n hx hb d_M_whole_IIJ_73 rfl (lv_at hl 2 rfl) ?_
          refine va_get (D := (dC, dI)) (ci := 3) (v := .ref (ad 14)) (C := R_M) (T := F_M) (N := 21) hx hb hts (fun w h => gm (i_M w h)) hown hK G.1 0 rfl rfl 20 (by decide) (hts _ (gm tw_441)) (fun _ h9 => h9) rfl d_M_whole_IIJ_74 ?_
          refine lv_iload_n hx hb d_M_whole_IIJ_77 rfl (lv_at hl 3 rfl) ?_
          refine lv_iload_n hx hb d_M_whole_IIJ_78 rfl (lv_at hl 4 rfl) ?_
          refine lv_if_ne (tgt := 87) hx hb d_M_whole_IIJ_79 (by decide) (fun c6 => ?_) (fun c6 => ?_)
          · refine lv_lload hx hb d_M_whole_IIJ_87 (lv_at hl 0 rfl) ?_
            refine pu_l (As := [.long v5]) (rest := [.int x1, .ref (ad 14)]) ⟨hx, hb, hml, hown, hts⟩ (c_M_toDouble_J l _ t0 t1 t2 v5) (pr_pre (hx_R hRT G)) (gw_call (k := 1) hts tw_570 tw_571 tw_4 tw_572 (by decide +kernel) rfl rfl ⟨Nat.le_of_ble_eq_true rfl, Nat.le_of_ble_eq_true rfl⟩) rfl hl.1 rfl (Nat.le_of_ble_eq_true rfl) ⟨Nat.zero_le _, Nat.zero_le _⟩ d_M_whole_IIJ_89 ?_
            obtain ⟨S7, e7⟩ : ∃ z : MS, z = u_m_store S (vp_updL (m_store S) x1.toNatClampNeg (f_M_toDouble_J v5)) := ⟨_, rfl⟩
            refine hg_last hx hb hK G 14 0 rfl rfl (in_in c1 (by decide) (by decide)) d_M_whole_IIJ_92 (mW ad cJ cI S7) (by rw [e7]; rfl) (fun H locs G => ?_)
            refine lv_aload_n hx hb d_M_whole_IIJ_93 rfl (lv_at hl 2 rfl) ?_
            refine va_get (D := (dC, dI)) (ci := 3) (v := .ref (ad 14)) (C := R_M) (T := F_M) (N := 21) hx hb hts (fun w h => gm (i_M w h)) hown hK G.1 0 rfl rfl 20 (by decide) (hts _ (gm tw_441)) (fun _ h9 => h9) rfl d_M_whole_IIJ_94 ?_
            refine lv_iload_n hx hb d_M_whole_IIJ_97 rfl (lv_at hl 3 rfl) ?_
            refine va_lald hx hb hK G.1 14 0 rfl rfl (in_in c1 (by decide) (by decide)) d_M_whole_IIJ_98 ?_
            refine pu_l (As := [.long (m_store S7 x1.toNatClampNeg)]) (rest := []) ⟨hx, hb, hml, hown, hts⟩ (c_M_told_J l _ (m_store S7 x1.toNatClampNeg)) pu_pre (gw_call (k := 1) hts tw_647 tw_648 tw_4 tw_649 (by decide +kernel) rfl rfl ⟨Nat.le_of_ble_eq_true rfl, Nat.le_of_ble_eq_true rfl⟩) rfl hl.1 rfl (Nat.le_of_ble_eq_true rfl) ⟨Nat.zero_le _, Nat.zero_le _⟩ d_M_whole_IIJ_99 ?_
            exact hg_lret hx hb hr hlocks hK hAe G (by have qe5 := e5.symm; have qe7 := e7.symm; subst qe5 qe7; have e9 : f_M_whole_IIJ S x1 x2 x3 = _ := (Eq.trans (if_neg c1) (Eq.trans (if_neg c2) (Eq.trans (if_neg c3) (Eq.trans (if_pos c4) (if_neg c6))))); exact ⟨Eq.symm (congrArg Prod.fst e9), Eq.symm (congrArg (fun z => mW ad cJ cI z.2) e9)⟩) d_M_whole_IIJ_102
          · refine lv_lload hx hb d_M_whole_IIJ_82 (lv_at hl 0 rfl) ?_
            refine lv_goto (tgt := 92) hx hb d_M_whole_IIJ_84 (by decide) ?_
            obtain ⟨S8, e8⟩ : ∃ z : MS, z = u_m_store S (vp_updL (m_store S) x1.toNatClampNeg v5) := ⟨_, rfl⟩
            refine hg_last hx hb hK G 14 0 rfl rfl (in_in c1 (by decide) (by decide)) d_M_whole_IIJ_92 (mW ad cJ cI S8) (by rw [e8]; rfl) (fun H locs G => ?_)
            refine lv_aload_n hx hb d_M_whole_IIJ_93 rfl (lv_at hl 2 rfl) ?_
            refine va_get (D := (dC, dI)) (ci := 3) (v := .ref (ad 14)) (C := R_M) (T := F_M) (N := 21) hx hb hts (fun w h => gm (i_M w h)) hown hK G.1 0 rfl rfl 20 (by decide) (hts _ (gm tw_441)) (fun _ h9 => h9) rfl d_M_whole_IIJ_94 ?_
            refine lv_iload_n hx hb d_M_whole_IIJ_97 rfl (lv_at hl 3 rfl) ?_
            refine va_lald hx hb hK G.1 14 0 rfl rfl (in_in c1 (by decide) (by decide)) d_M_whole_IIJ_98 ?_
            refine pu_l (As := [.long (m_store S8 x1.toNatClampNeg)]) (rest := []) ⟨hx, hb, hml, hown, hts⟩ (c_M_told_J l _ (m_store S8 x1.toNatClampNeg)) pu_pre (gw_call (k := 1) hts tw_647 tw_648 tw_4 tw_649 (by decide +kernel) rfl rfl ⟨Nat.le_of_ble_eq_true rfl, Nat.le_of_ble_eq_true rfl⟩) rfl hl.1 rfl (Nat.le_of_ble_eq_true rfl) ⟨Nat.zero_le _, Nat.zero_le _⟩ d_M_whole_IIJ_99 ?_
            exact hg_lret hx hb hr hlocks hK hAe G (by have qe5 := e5.symm; have qe8 := e8.symm; subst qe5 qe8; have e9 : f_M_whole_IIJ S x1 x2 x3 = _ := (Eq.trans (if_neg c1) (Eq.trans (if_neg c2) (Eq.trans (if_neg c3) (Eq.trans (if_pos c4) (if_pos c6))))); exact ⟨Eq.symm (congrArg Prod.fst e9), Eq.symm (congrArg (fun z => mW ad cJ cI z.2) e9)⟩) d_M_whole_IIJ_102
        · refine lv_iconst (v := 1) hx hb d_M_whole_IIJ_57 (by decide) ?_
          refine lv_goto (tgt := 62) hx hb d_M_whole_IIJ_58 (by decide) ?_
          refine lv_lload_n hx hb d_M_whole_IIJ_62 rfl (lv_at hl 4 rfl) ?_
          refine pu_l (As := [.long x3]) (rest := [.int (1 : Int32)]) ⟨hx, hb, hml, hown, hts⟩ (c_jM_abs_J l _ x3) pu_pre (gw_call (k := 1) hts tw_676 tw_333 tw_6 tw_334 (by decide +kernel) rfl rfl ⟨Nat.le_of_ble_eq_true rfl, Nat.le_of_ble_eq_true rfl⟩) rfl hl.1 rfl (Nat.le_of_ble_eq_true rfl) ⟨Nat.zero_le _, Nat.zero_le _⟩ d_M_whole_IIJ_63 ?_
          refine lv_iconst (v := 0) hx hb d_M_whole_IIJ_66 (by decide) ?_
          refine lv_iload_n hx hb d_M_whole_IIJ_67 rfl (lv_at hl 3 rfl) ?_
          refine pu_l (As := [.int (1 : Int32), .long (f_jM_abs_J x3), .int (0 : Int32), .int x2]) (rest := []) ⟨hx, hb, hml, hown, hts⟩ (c_M_exact_ZJII l _ t0 t1 t2 (1 : Int32) (f_jM_abs_J x3) (0 : Int32) x2 (in_in c2 (by decide) (by decide))) (pr_pre (hx_R hRT G)) (gw_call (k := 4) hts tw_536 tw_537 tw_4 tw_538 (by decide +kernel) rfl rfl ⟨Nat.le_of_ble_eq_true rfl, Nat.le_of_ble_eq_true rfl⟩) rfl hl.1 rfl (Nat.le_of_ble_eq_true rfl) ⟨Nat.zero_le _, Nat.zero_le _⟩ d_M_whole_IIJ_68 ?_
          refine lv_topl (fun v9 e9 => ?_)
          refine lv_lstore (lv' := [(6, .long v9), (5, .int (0 : Int32)), (0, .ref (ad 0)), (1, .int x1), (2, .int x2), (3, .long x3)]) hx hb d_M_whole_IIJ_71 hl (by decide) rfl (fun ls hl => ?_)
          refine lv_aload_n hx hb d_M_whole_IIJ_73 rfl (lv_at hl 2 rfl) ?_
          refine va_get (D := (dC, dI)) (ci := 3) (v := .ref (ad 14)) (C := R_M) (T := F_M) (N := 21) hx hb hts (fun w h => gm (i_M w h)) hown hK G.1 0 rfl rfl 20 (by decide) (hts _ (gm tw_441)) (fun _ h9 => h9) rfl d_M_whole_IIJ_74 ?_
          refine lv_iload_n hx hb d_M_whole_IIJ_77 rfl (lv_at hl 3 rfl) ?_
          refine lv_iload_n hx hb d_M_whole_IIJ_78 rfl (lv_at hl 4 rfl) ?_
          refine lv_if_ne (tgt := 87) hx hb d_M_whole_IIJ_79 (by decide) (fun c10 => ?_) (fun c10 => ?_)
          · refine lv_lload hx hb d_M_whole_IIJ_87 (lv_at hl 0 rfl) ?_
            refine pu_l (As := [.long v9]) (rest := [.int x1, .ref (ad 14)]) ⟨hx, hb, hml, hown, hts⟩ (c_M_toDouble_J l _ t0 t1 t2 v9) (pr_pre (hx_R hRT G)) (gw_call (k := 1) hts tw_570 tw_571 tw_4 tw_572 (by decide +kernel) rfl rfl ⟨Nat.le_of_ble_eq_true rfl, Nat.le_of_ble_eq_true rfl⟩) rfl hl.1 rfl (Nat.le_of_ble_eq_true rfl) ⟨Nat.zero_le _, Nat.zero_le _⟩ d_M_whole_IIJ_89 ?_
            obtain ⟨S11, e11⟩ : ∃ z : MS, z = u_m_store S (vp_updL (m_store S) x1.toNatClampNeg (f_M_toDouble_J v9)) := ⟨_, rfl⟩
            refine hg_last hx hb hK G 14 0 rfl rfl (in_in c1 (by decide) (by decide)) d_M_whole_IIJ_92 (mW ad cJ cI S11) (by rw [e11]; rfl) (fun H locs G => ?_)
            refine lv_aload_n hx hb d_M_whole_IIJ_93 rfl (lv_at hl 2 rfl) ?_
            refine va_get (D := (dC, dI)) (ci := 3) (v := .ref (ad 14)) (C := R_M) (T := F_M) (N := 21) hx hb hts (fun w h => gm (i_M w h)) hown hK G.1 0 rfl rfl 20 (by decide) (hts _ (gm tw_441)) (fun _ h9 => h9) rfl d_M_whole_IIJ_94 ?_
            refine lv_iload_n hx hb d_M_whole_IIJ_97 rfl (lv_at hl 3 rfl) ?_
            refine va_lald hx hb hK G.1 14 0 rfl rfl (in_in c1 (by decide) (by decide)) d_M_whole_IIJ_98 ?_
            refine pu_l (As := [.long (m_store S11 x1.toNatClampNeg)]) (rest := []) ⟨hx, hb, hml, hown, hts⟩ (c_M_told_J l _ (m_store S11 x1.toNatClampNeg)) pu_pre (gw_call (k := 1) hts tw_647 tw_648 tw_4 tw_649 (by decide +kernel) rfl rfl ⟨Nat.le_of_ble_eq_true rfl, Nat.le_of_ble_eq_true rfl⟩) rfl hl.1 rfl (Nat.le_of_ble_eq_true rfl) ⟨Nat.zero_le _, Nat.zero_le _⟩ d_M_whole_IIJ_99 ?_
            exact hg_lret hx hb hr hlocks hK hAe G (by have qe9 := e9.symm; have qe11 := e11.symm; subst qe9 qe11; have e9 : f_M_whole_IIJ S x1 x2 x3 = _ := (Eq.trans (if_neg c1) (Eq.trans (if_neg c2) (Eq.trans (if_neg c3) (Eq.trans (if_neg c4) (if_neg c10))))); exact ⟨Eq.symm (congrArg Prod.fst e9), Eq.symm (congrArg (fun z => mW ad cJ cI z.2) e9)⟩) d_M_whole_IIJ_102
          · refine lv_lload hx hb d_M_whole_IIJ_82 (lv_at hl 0 rfl) ?_
            refine lv_goto (tgt := 92) hx hb d_M_whole_IIJ_84 (by decide) ?_
            obtain ⟨S12, e12⟩ : ∃ z : MS, z = u_m_store S (vp_updL (m_store S) x1.toNatClampNeg v9) := ⟨_, rfl⟩
            refine hg_last hx hb hK G 14 0 rfl rfl (in_in c1 (by decide) (by decide)) d_M_whole_IIJ_92 (mW ad cJ cI S12) (by rw [e12]; rfl) (fun H locs G => ?_)
            refine lv_aload_n hx hb d_M_whole_IIJ_93 rfl (lv_at hl 2 rfl) ?_
            refine va_get (D := (dC, dI)) (ci := 3) (v := .ref (ad 14)) (C := R_M) (T := F_M) (N := 21) hx hb hts (fun w h => gm (i_M w h)) hown hK G.1 0 rfl rfl 20 (by decide) (hts _ (gm tw_441)) (fun _ h9 => h9) rfl d_M_whole_IIJ_94 ?_
            refine lv_iload_n hx hb d_M_whole_IIJ_97 rfl (lv_at hl 3 rfl) ?_
            refine va_lald hx hb hK G.1 14 0 rfl rfl (in_in c1 (by decide) (by decide)) d_M_whole_IIJ_98 ?_
            refine pu_l (As := [.long (m_store S12 x1.toNatClampNeg)]) (rest := []) ⟨hx, hb, hml, hown, hts⟩ (c_M_told_J l _ (m_store S12 x1.toNatClampNeg)) pu_pre (gw_call (k := 1) hts tw_647 tw_648 tw_4 tw_649 (by decide +kernel) rfl rfl ⟨Nat.le_of_ble_eq_true rfl, Nat.le_of_ble_eq_true rfl⟩) rfl hl.1 rfl (Nat.le_of_ble_eq_true rfl) ⟨Nat.zero_le _, Nat.zero_le _⟩ d_M_whole_IIJ_99 ?_
            exact hg_lret hx hb hr hlocks hK hAe G (by have qe9 := e9.symm; have qe12 := e12.symm; subst qe9 qe12; have e9 : f_M_whole_IIJ S x1 x2 x3 = _ := (Eq.trans (if_neg c1) (Eq.trans (if_neg c2) (Eq.trans (if_neg c3) (Eq.trans (if_neg c4) (if_pos c10))))); exact ⟨Eq.symm (congrArg Prod.fst e9), Eq.symm (congrArg (fun z => mW ad cJ cI z.2) e9)⟩) d_M_whole_IIJ_102
      · refine lv_iconst (v := 1) hx hb d_M_whole_IIJ_27 (by decide) ?_
        refine lv_goto (tgt := 32) hx hb d_M_whole_IIJ_28 (by decide) ?_
        refine lv_istore (lv' := [(5, .int (1 : Int32)), (0, .ref (ad 0)), (1, .int x1), (2, .int x2), (3, .long x3)]) hx hb d_M_whole_IIJ_32 hl (by decide) rfl (fun ls hl => ?_)
        refine lv_iload hx hb d_M_whole_IIJ_34 (lv_at hl 0 rfl) ?_
        refine lv_if_eq (tgt := 51) hx hb d_M_whole_IIJ_36 (by decide) (fun c0 => absurd c0 (by decide)) (fun _ => ?_)
        refine lv_iconst (v := 1) hx hb d_M_whole_IIJ_39 (by decide) ?_
        refine lv_ldc2 (v := (4611686018427387904 : Int64)) hx hb hown (hts _ (gm tw_630)) d_M_whole_IIJ_40 ?_
        refine lv_iconst (v := 1) hx hb d_M_whole_IIJ_43 (by decide) ?_
        refine lv_iload_n hx hb d_M_whole_IIJ_44 rfl (lv_at hl 3 rfl) ?_
        refine pu_l (As := [.int (1 : Int32), .long (4611686018427387904 : Int64), .int (1 : Int32), .int x2]) (rest := []) ⟨hx, hb, hml, hown, hts⟩ (c_M_exact_ZJII l _ t0 t1 t2 (1 : Int32) (4611686018427387904 : Int64) (1 : Int32) x2 (in_in c2 (by decide) (by decide))) (pr_pre (hx_R hRT G)) (gw_call (k := 4) hts tw_536 tw_537 tw_4 tw_538 (by decide +kernel) rfl rfl ⟨Nat.le_of_ble_eq_true rfl, Nat.le_of_ble_eq_true rfl⟩) rfl hl.1 rfl (Nat.le_of_ble_eq_true rfl) ⟨Nat.zero_le _, Nat.zero_le _⟩ d_M_whole_IIJ_45 ?_
        refine lv_goto (tgt := 71) hx hb d_M_whole_IIJ_48 (by decide) ?_
        refine lv_topl (fun v13 e13 => ?_)
        refine lv_lstore (lv' := [(6, .long v13), (5, .int (1 : Int32)), (0, .ref (ad 0)), (1, .int x1), (2, .int x2), (3, .long x3)]) hx hb d_M_whole_IIJ_71 hl (by decide) rfl (fun ls hl => ?_)
        refine lv_aload_n hx hb d_M_whole_IIJ_73 rfl (lv_at hl 2 rfl) ?_
        refine va_get (D := (dC, dI)) (ci := 3) (v := .ref (ad 14)) (C := R_M) (T := F_M) (N := 21) hx hb hts (fun w h => gm (i_M w h)) hown hK G.1 0 rfl rfl 20 (by decide) (hts _ (gm tw_441)) (fun _ h9 => h9) rfl d_M_whole_IIJ_74 ?_
        refine lv_iload_n hx hb d_M_whole_IIJ_77 rfl (lv_at hl 3 rfl) ?_
        refine lv_iload_n hx hb d_M_whole_IIJ_78 rfl (lv_at hl 4 rfl) ?_
        refine lv_if_ne (tgt := 87) hx hb d_M_whole_IIJ_79 (by decide) (fun c14 => ?_) (fun c14 => ?_)
        · refine lv_lload hx hb d_M_whole_IIJ_87 (lv_at hl 0 rfl) ?_
          refine pu_l (As := [.long v13]) (rest := [.int x1, .ref (ad 14)]) ⟨hx, hb, hml, hown, hts⟩ (c_M_toDouble_J l _ t0 t1 t2 v13) (pr_pre (hx_R hRT G)) (gw_call (k := 1) hts tw_570 tw_571 tw_4 tw_572 (by decide +kernel) rfl rfl ⟨Nat.le_of_ble_eq_true rfl, Nat.le_of_ble_eq_true rfl⟩) rfl hl.1 rfl (Nat.le_of_ble_eq_true rfl) ⟨Nat.zero_le _, Nat.zero_le _⟩ d_M_whole_IIJ_89 ?_
          obtain ⟨S15, e15⟩ : ∃ z : MS, z = u_m_store S (vp_updL (m_store S) x1.toNatClampNeg (f_M_toDouble_J v13)) := ⟨_, rfl⟩
          refine hg_last hx hb hK G 14 0 rfl rfl (in_in c1 (by decide) (by decide)) d_M_whole_IIJ_92 (mW ad cJ cI S15) (by rw [e15]; rfl) (fun H locs G => ?_)
          refine lv_aload_n hx hb d_M_whole_IIJ_93 rfl (lv_at hl 2 rfl) ?_
          refine va_get (D := (dC, dI)) (ci := 3) (v := .ref (ad 14)) (C := R_M) (T := F_M) (N := 21) hx hb hts (fun w h => gm (i_M w h)) hown hK G.1 0 rfl rfl 20 (by decide) (hts _ (gm tw_441)) (fun _ h9 => h9) rfl d_M_whole_IIJ_94 ?_
          refine lv_iload_n hx hb d_M_whole_IIJ_97 rfl (lv_at hl 3 rfl) ?_
          refine va_lald hx hb hK G.1 14 0 rfl rfl (in_in c1 (by decide) (by decide)) d_M_whole_IIJ_98 ?_
          refine pu_l (As := [.long (m_store S15 x1.toNatClampNeg)]) (rest := []) ⟨hx, hb, hml, hown, hts⟩ (c_M_told_J l _ (m_store S15 x1.toNatClampNeg)) pu_pre (gw_call (k := 1) hts tw_647 tw_648 tw_4 tw_649 (by decide +kernel) rfl rfl ⟨Nat.le_of_ble_eq_true rfl, Nat.le_of_ble_eq_true rfl⟩) rfl hl.1 rfl (Nat.le_of_ble_eq_true rfl) ⟨Nat.zero_le _, Nat.zero_le _⟩ d_M_whole_IIJ_99 ?_
          exact hg_lret hx hb hr hlocks hK hAe G (by have qe13 := e13.symm; have qe15 := e15.symm; subst qe13 qe15; have e9 : f_M_whole_IIJ S x1 x2 x3 = _ := (Eq.trans (if_neg c1) (Eq.trans (if_neg c2) (Eq.trans (if_pos c3) (if_neg c14)))); exact ⟨Eq.symm (congrArg Prod.fst e9), Eq.symm (congrArg (fun z => mW ad cJ cI z.2) e9)⟩) d_M_whole_IIJ_102
        · refine lv_lload hx hb d_M_whole_IIJ_82 (lv_at hl 0 rfl) ?_
          refine lv_goto (tgt := 92) hx hb d_M_whole_IIJ_84 (by decide) ?_
          obtain ⟨S16, e16⟩ : ∃ z : MS, z = u_m_store S (vp_updL (m_store S) x1.toNatClampNeg v13) := ⟨_, rfl⟩
          refine hg_last hx hb hK G 14 0 rfl rfl (in_in c1 (by decide) (by decide)) d_M_whole_IIJ_92 (mW ad cJ cI S16) (by rw [e16]; rfl) (fun H locs G => ?_)
          refine lv_aload_n hx hb d_M_whole_IIJ_93 rfl (lv_at hl 2 rfl) ?_
          refine va_get (D := (dC, dI)) (ci := 3) (v := .ref (ad 14)) (C := R_M) (T := F_M) (N := 21) hx hb hts (fun w h => gm (i_M w h)) hown hK G.1 0 rfl rfl 20 (by decide) (hts _ (gm tw_441)) (fun _ h9 => h9) rfl d_M_whole_IIJ_94 ?_
          refine lv_iload_n hx hb d_M_whole_IIJ_97 rfl (lv_at hl 3 rfl) ?_
          refine va_lald hx hb hK G.1 14 0 rfl rfl (in_in c1 (by decide) (by decide)) d_M_whole_IIJ_98 ?_
          refine pu_l (As := [.long (m_store S16 x1.toNatClampNeg)]) (rest := []) ⟨hx, hb, hml, hown, hts⟩ (c_M_told_J l _ (m_store S16 x1.toNatClampNeg)) pu_pre (gw_call (k := 1) hts tw_647 tw_648 tw_4 tw_649 (by decide +kernel) rfl rfl ⟨Nat.le_of_ble_eq_true rfl, Nat.le_of_ble_eq_true rfl⟩) rfl hl.1 rfl (Nat.le_of_ble_eq_true rfl) ⟨Nat.zero_le _, Nat.zero_le _⟩ d_M_whole_IIJ_99 ?_
          exact hg_lret hx hb hr hlocks hK hAe G (by have qe13 := e13.symm; have qe16 := e16.symm; subst qe13 qe16; have e9 : f_M_whole_IIJ S x1 x2 x3 = _ := (Eq.trans (if_neg c1) (Eq.trans (if_neg c2) (Eq.trans (if_pos c3) (if_pos c14)))); exact ⟨Eq.symm (congrArg Prod.fst e9), Eq.symm (congrArg (fun z => mW ad cJ cI z.2) e9)⟩) d_M_whole_IIJ_102
    · refine lv_lconst (v := (1 : Int64)) hx hb d_M_whole_IIJ_17 (by decide) ?_
      exact hg_lret hx hb hr hlocks hK hAe G (by have e9 : f_M_whole_IIJ S x1 x2 x3 = _ := (Eq.trans (if_neg c1) (if_pos c2)); exact ⟨Eq.symm (congrArg Prod.fst e9), Eq.symm (congrArg (fun z => mW ad cJ cI z.2) e9)⟩) d_M_whole_IIJ_18
