-- ===== MotionLab.cast(II)J 
abbrev y_L_cast_II : MethodName := ⟨"MotionLab", "cast", "(II)J"⟩
abbrev b_L_cast_II : ByteArray := prog_1_method_12_code
theorem d_L_cast_II_0 : decode b_L_cast_II 0 = .ok (.iload_n 1, 1) := by decide +kernel
theorem d_L_cast_II_1 : decode b_L_cast_II 1 = .ok (.invokestatic 76, 3) := by decide +kernel
theorem d_L_cast_II_4 : decode b_L_cast_II 4 = .ok (.ifCond .ne 7, 3) := by decide +kernel
theorem d_L_cast_II_7 : decode b_L_cast_II 7 = .ok (.ldc2_w 93, 3) := by decide +kernel
theorem d_L_cast_II_10 : decode b_L_cast_II 10 = .ok (.lreturn, 1) := by decide +kernel
theorem d_L_cast_II_11 : decode b_L_cast_II 11 = .ok (.iload_n 2, 1) := by decide +kernel
theorem d_L_cast_II_12 : decode b_L_cast_II 12 = .ok (.tableswitch 93 0 4 #[36, 47, 57, 69, 81], 36) := by decide +kernel
theorem d_L_cast_II_48 : decode b_L_cast_II 48 = .ok (.aload_n 0, 1) := by decide +kernel
theorem d_L_cast_II_49 : decode b_L_cast_II 49 = .ok (.getfield 16, 3) := by decide +kernel
theorem d_L_cast_II_52 : decode b_L_cast_II 52 = .ok (.iload_n 1, 1) := by decide +kernel
theorem d_L_cast_II_53 : decode b_L_cast_II 53 = .ok (.laload, 1) := by decide +kernel
theorem d_L_cast_II_54 : decode b_L_cast_II 54 = .ok (.invokestatic 95, 3) := by decide +kernel
theorem d_L_cast_II_57 : decode b_L_cast_II 57 = .ok (.i2l, 1) := by decide +kernel
theorem d_L_cast_II_58 : decode b_L_cast_II 58 = .ok (.lreturn, 1) := by decide +kernel
theorem d_L_cast_II_59 : decode b_L_cast_II 59 = .ok (.aload_n 0, 1) := by decide +kernel
theorem d_L_cast_II_60 : decode b_L_cast_II 60 = .ok (.getfield 16, 3) := by decide +kernel
theorem d_L_cast_II_63 : decode b_L_cast_II 63 = .ok (.iload_n 1, 1) := by decide +kernel
theorem d_L_cast_II_64 : decode b_L_cast_II 64 = .ok (.laload, 1) := by decide +kernel
theorem d_L_cast_II_65 : decode b_L_cast_II 65 = .ok (.invokestatic 99, 3) := by decide +kernel
theorem d_L_cast_II_68 : decode b_L_cast_II 68 = .ok (.lreturn, 1) := by decide +kernel
theorem d_L_cast_II_69 : decode b_L_cast_II 69 = .ok (.aload_n 0, 1) := by decide +kernel
theorem d_L_cast_II_70 : decode b_L_cast_II 70 = .ok (.getfield 16, 3) := by decide +kernel
theorem d_L_cast_II_73 : decode b_L_cast_II 73 = .ok (.iload_n 1, 1) := by decide +kernel
theorem d_L_cast_II_74 : decode b_L_cast_II 74 = .ok (.laload, 1) := by decide +kernel
theorem d_L_cast_II_75 : decode b_L_cast_II 75 = .ok (.invokestatic 95, 3) := by decide +kernel
theorem d_L_cast_II_78 : decode b_L_cast_II 78 = .ok (.i2s, 1) := by decide +kernel
theorem d_L_cast_II_79 : decode b_L_cast_II 79 = .ok (.i2l, 1) := by decide +kernel
theorem d_L_cast_II_80 : decode b_L_cast_II 80 = .ok (.lreturn, 1) := by decide +kernel
theorem d_L_cast_II_81 : decode b_L_cast_II 81 = .ok (.aload_n 0, 1) := by decide +kernel
theorem d_L_cast_II_82 : decode b_L_cast_II 82 = .ok (.getfield 16, 3) := by decide +kernel
theorem d_L_cast_II_85 : decode b_L_cast_II 85 = .ok (.iload_n 1, 1) := by decide +kernel
theorem d_L_cast_II_86 : decode b_L_cast_II 86 = .ok (.laload, 1) := by decide +kernel
theorem d_L_cast_II_87 : decode b_L_cast_II 87 = .ok (.invokestatic 95, 3) := by decide +kernel
theorem d_L_cast_II_90 : decode b_L_cast_II 90 = .ok (.i2c, 1) := by decide +kernel
theorem d_L_cast_II_91 : decode b_L_cast_II 91 = .ok (.i2l, 1) := by decide +kernel
theorem d_L_cast_II_92 : decode b_L_cast_II 92 = .ok (.lreturn, 1) := by decide +kernel
theorem d_L_cast_II_93 : decode b_L_cast_II 93 = .ok (.aload_n 0, 1) := by decide +kernel
theorem d_L_cast_II_94 : decode b_L_cast_II 94 = .ok (.getfield 16, 3) := by decide +kernel
theorem d_L_cast_II_97 : decode b_L_cast_II 97 = .ok (.iload_n 1, 1) := by decide +kernel
theorem d_L_cast_II_98 : decode b_L_cast_II 98 = .ok (.laload, 1) := by decide +kernel
theorem d_L_cast_II_99 : decode b_L_cast_II 99 = .ok (.invokestatic 95, 3) := by decide +kernel
theorem d_L_cast_II_102 : decode b_L_cast_II 102 = .ok (.i2b, 1) := by decide +kernel
theorem d_L_cast_II_103 : decode b_L_cast_II 103 = .ok (.i2l, 1) := by decide +kernel
theorem d_L_cast_II_104 : decode b_L_cast_II 104 = .ok (.lreturn, 1) := by decide +kernel
theorem d_L_cast_II_105 : decode b_L_cast_II 105 = .ok (.ldc2_w 93, 3) := by decide +kernel
theorem d_L_cast_II_108 : decode b_L_cast_II 108 = .ok (.lreturn, 1) := by decide +kernel
def f_L_cast_II (S : CS) (x1 : Int32) (x2 : Int32) : Int64 :=
  if (f_L_isStore_I x1) = 0 then
    (4611686018427387904 : Int64)
  else
    if x2 = 0 then
      (f_I_toInt_J (sT S x1.toNatClampNeg)).toInt64
    else
      if x2 = 1 then
        f_I_toLong_J (sT S x1.toNatClampNeg)
      else
        if x2 = 2 then
          ((f_I_toInt_J (sT S x1.toNatClampNeg)).toInt16.toInt32).toInt64
        else
          if x2 = 3 then
            (((f_I_toInt_J (sT S x1.toNatClampNeg)).toUInt32 % 65536).toInt32).toInt64
          else
            if x2 = 4 then
              ((f_I_toInt_J (sT S x1.toNatClampNeg)).toInt8.toInt32).toInt64
            else
              (4611686018427387904 : Int64)
set_option maxHeartbeats 4000000 in
set_option maxRecDepth 100000 in
theorem c_L_cast_II (l : Launch) (dC : Nat → ClassId) (dI : Nat → Nat → Nat) (ad : Nat → Nat) (cJ cI : ClassId) (S : CS) (x1 : Int32) (x2 : Int32) (sz : Nat) : hMl l y_L_cast_II (gw y_L_cast_II b_L_cast_II 3 (some .long)) { frames := 4, cells := 0, slots := 0, locals := 88 } [.ref (ad 0), .int x1, .int x2] (dC, dI) classes (tysJI cJ cI) (fun _ => True) (cW ad cJ cI S) sz (f_L_cast_II S x1 x2) (cW ad cJ cI S) := by
  refine Met.ofW (cc := b_L_cast_II) (maxL := 3) (ret := (some .long)) (by decide) rfl ?_
  intro p e s m args below meth c s₁ B hml hv
  obtain ⟨rfl, hsz, hP, hK, hD0, hRT⟩ := hv
  have hx := B.exec
  have hb := B.bytes
  have hr := B.returns
  have hts := atoms_spec (ws := (gw y_L_cast_II b_L_cast_II 3 (some .long))) B.pre
  have hown : s.vm.findClass "MotionLab" = some m.cls := findClass_of_methodNamed B.named
  have hlocks := B.notSynchronized
  subst hsz
  have hD := hD0.self (sz := s.heap.size)
  generalize hAe : va_A (cW ad cJ cI S) s.heap.size = A at hD
  have hA : ∀ q : Nat, s.heap.size ≤ q → A q := fun q h => by rw [← hAe]; exact Or.inr h
  have G : hG (dC, dI) classes A s.heap (cW ad cJ cI S) s.heap [] := ⟨hP, hD, va_S.rf⟩
  have hl := lv_entry ([.ref (ad 0), .int x1, .int x2]) (n := 3) (Nat.le_of_ble_eq_true rfl)
  rw [lg_entry_eq]
  generalize (lg_sl ([.ref (ad 0), .int x1, .int x2]) ++ List.replicate (3 - (lg_sl ([.ref (ad 0), .int x1, .int x2])).length) Slot.unset).toArray = ls at hl ⊢
  have hl : lv_has ls 3 [(0, .ref (ad 0)), (1, .int x1), (2, .int x2)] := hl
  refine lv_iload_n hx hb d_L_cast_II_0 rfl (lv_at hl 1 rfl) ?_
  refine pu_i (As := [.int x1]) (rest := []) ⟨hx, hb, hml, hown, hts⟩ (c_L_isStore_I l _ x1) pu_pre (gw_call (k := 1) hts tw_290 tw_291 tw_1 tw_292 (by decide +kernel) rfl rfl ⟨Nat.le_of_ble_eq_true rfl, Nat.le_of_ble_eq_true rfl⟩) rfl hl.1 rfl (Nat.le_of_ble_eq_true rfl) ⟨Nat.zero_le _, Nat.zero_le _⟩ d_L_cast_II_1 ?_
  refine lv_if_ne (tgt := 11) hx hb d_L_cast_II_4 (by decide) (fun c1 => ?_) (fun c1 => ?_)
  · refine lv_iload_n hx hb d_L_cast_II_11 rfl (lv_at hl 2 rfl) ?_
    by_cases c2 : x2 = 0
    · refine lv_tableIn (off := 36) (tgt := 48) hx hb d_L_cast_II_12 (by rw [c2]; decide) (by rw [c2]; decide) (by rw [c2]; rfl) (by decide) ?_
      refine lv_aload_n hx hb d_L_cast_II_48 rfl (lv_at hl 0 rfl) ?_
      refine va_get (D := (dC, dI)) (ci := 0) (v := .ref (ad 2)) (C := R_L) (T := F_L) (N := 2) hx hb hts (fun w h => gm (i_L w h)) hown hK G.1 0 rfl rfl 1 (by decide) (hts _ (gm tw_58)) (fun _ h9 => h9) rfl d_L_cast_II_49 ?_
      refine lv_iload_n hx hb d_L_cast_II_52 rfl (lv_at hl 1 rfl) ?_
      refine va_lald hx hb hK G.1 2 0 rfl rfl (in_isStore c1) d_L_cast_II_53 ?_
      refine pu_i (As := [.long (sT S x1.toNatClampNeg)]) (rest := []) ⟨hx, hb, hml, hown, hts⟩ (c_I_toInt_J l _ (sT S x1.toNatClampNeg)) pu_pre (gw_call (k := 1) hts tw_343 tw_344 tw_5 tw_345 (by decide +kernel) rfl rfl ⟨Nat.le_of_ble_eq_true rfl, Nat.le_of_ble_eq_true rfl⟩) rfl hl.1 rfl (Nat.le_of_ble_eq_true rfl) ⟨Nat.zero_le _, Nat.zero_le _⟩ d_L_cast_II_54 ?_
      refine lv_i2l hx hb d_L_cast_II_57 rfl ?_
      exact hg_lret hx hb hr hlocks hK hAe G (by have e9 : f_L_cast_II S x1 x2 = _ := (Eq.trans (if_neg c1) (if_pos c2)); exact ⟨Eq.symm e9, rfl⟩) d_L_cast_II_58
    · skip
      by_cases c3 : x2 = 1
      · refine lv_tableIn (off := 47) (tgt := 59) hx hb d_L_cast_II_12 (by rw [c3]; decide) (by rw [c3]; decide) (by rw [c3]; rfl) (by decide) ?_
        refine lv_aload_n hx hb d_L_cast_II_59 rfl (lv_at hl 0 rfl) ?_
        refine va_get (D := (dC, dI)) (ci := 0) (v := .ref (ad 2)) (C := R_L) (T := F_L) (N := 2) hx hb hts (fun w h => gm (i_L w h)) hown hK G.1 0 rfl rfl 1 (by decide) (hts _ (gm tw_58)) (fun _ h9 => h9) rfl d_L_cast_II_60 ?_
        refine lv_iload_n hx hb d_L_cast_II_63 rfl (lv_at hl 1 rfl) ?_
        refine va_lald hx hb hK G.1 2 0 rfl rfl (in_isStore c1) d_L_cast_II_64 ?_
        refine pu_l (As := [.long (sT S x1.toNatClampNeg)]) (rest := []) ⟨hx, hb, hml, hown, hts⟩ (c_I_toLong_J l _ (sT S x1.toNatClampNeg)) pu_pre (gw_call (k := 1) hts tw_357 tw_349 tw_5 tw_350 (by decide +kernel) rfl rfl ⟨Nat.le_of_ble_eq_true rfl, Nat.le_of_ble_eq_true rfl⟩) rfl hl.1 rfl (Nat.le_of_ble_eq_true rfl) ⟨Nat.zero_le _, Nat.zero_le _⟩ d_L_cast_II_65 ?_
        exact hg_lret hx hb hr hlocks hK hAe G (by have e9 : f_L_cast_II S x1 x2 = _ := (Eq.trans (if_neg c1) (Eq.trans (if_neg c2) (if_pos c3))); exact ⟨Eq.symm e9, rfl⟩) d_L_cast_II_68
      · skip
        by_cases c4 : x2 = 2
        · refine lv_tableIn (off := 57) (tgt := 69) hx hb d_L_cast_II_12 (by rw [c4]; decide) (by rw [c4]; decide) (by rw [c4]; rfl) (by decide) ?_
          refine lv_aload_n hx hb d_L_cast_II_69 rfl (lv_at hl 0 rfl) ?_
          refine va_get (D := (dC, dI)) (ci := 0) (v := .ref (ad 2)) (C := R_L) (T := F_L) (N := 2) hx hb hts (fun w h => gm (i_L w h)) hown hK G.1 0 rfl rfl 1 (by decide) (hts _ (gm tw_58)) (fun _ h9 => h9) rfl d_L_cast_II_70 ?_
          refine lv_iload_n hx hb d_L_cast_II_73 rfl (lv_at hl 1 rfl) ?_
          refine va_lald hx hb hK G.1 2 0 rfl rfl (in_isStore c1) d_L_cast_II_74 ?_
          refine pu_i (As := [.long (sT S x1.toNatClampNeg)]) (rest := []) ⟨hx, hb, hml, hown, hts⟩ (c_I_toInt_J l _ (sT S x1.toNatClampNeg)) pu_pre (gw_call (k := 1) hts tw_343 tw_344 tw_5 tw_345 (by decide +kernel) rfl rfl ⟨Nat.le_of_ble_eq_true rfl, Nat.le_of_ble_eq_true rfl⟩) rfl hl.1 rfl (Nat.le_of_ble_eq_true rfl) ⟨Nat.zero_le _, Nat.zero_le _⟩ d_L_cast_II_75 ?_
          refine lv_i2s hx hb d_L_cast_II_78 rfl ?_
          refine lv_i2l hx hb d_L_cast_II_79 rfl ?_
          exact hg_lret hx hb hr hlocks hK hAe G (by have e9 : f_L_cast_II S x1 x2 = _ := (Eq.trans (if_neg c1) (Eq.trans (if_neg c2) (Eq.trans (if_neg c3) (if_pos c4)))); exact ⟨Eq.symm e9, rfl⟩) d_L_cast_II_80
        · skip
          by_cases c5 : x2 = 3
          · refine lv_tableIn (off := 69) (tgt := 81) hx hb d_L_cast_II_12 (by rw [c5]; decide) (by rw [c5]; decide) (by rw [c5]; rfl) (by decide) ?_
            refine lv_aload_n hx hb d_L_cast_II_81 rfl (lv_at hl 0 rfl) ?_
            refine va_get (D := (dC, dI)) (ci := 0) (v := .ref (ad 2)) (C := R_L) (T := F_L) (N := 2) hx hb hts (fun w h => gm (i_L w h)) hown hK G.1 0 rfl rfl 1 (by decide) (hts _ (gm tw_58)) (fun _ h9 => h9) rfl d_L_cast_II_82 ?_
            refine lv_iload_n hx hb d_L_cast_II_85 rfl (lv_at hl 1 rfl) ?_
            refine va_lald hx hb hK G.1 2 0 rfl rfl (in_isStore c1) d_L_cast_II_86 ?_
            refine pu_i (As := [.long (sT S x1.toNatClampNeg)]) (rest := []) ⟨hx, hb, hml, hown, hts⟩ (c_I_toInt_J l _ (sT S x1.toNatClampNeg)) pu_pre (gw_call (k := 1) hts tw_343 tw_344 tw_5 tw_345 (by decide +kernel) rfl rfl ⟨Nat.le_of_ble_eq_true rfl, Nat.le_of_ble_eq_true rfl⟩) rfl hl.1 rfl (Nat.le_of_ble_eq_true rfl) ⟨Nat.zero_le _, Nat.zero_le _⟩ d_L_cast_II_87 ?_
            refine lv_i2c hx hb d_L_cast_II_90 rfl ?_
            refine lv_i2l hx hb d_L_cast_II_91 rfl ?_
            exact hg_lret hx hb hr hlocks hK hAe G (by have e9 : f_L_cast_II S x1 x2 = _ := (Eq.trans (if_neg c1) (Eq.trans (if_neg c2) (Eq.trans (if_neg c3) (Eq.trans (if_neg c4) (if_pos c5))))); exact ⟨Eq.symm e9, rfl⟩) d_L_cast_II_92
          · skip
            by_cases c6 : x2 = 4
            · refine lv_tableIn (off := 81) (tgt := 93) hx hb d_L_cast_II_12 (by rw [c6]; decide) (by rw [c6]; decide) (by rw [c6]; rfl) (by decide) ?_
              refine lv_aload_n hx hb d_L_cast_II_93 rfl (lv_at hl 0 rfl) ?_
              refine va_get (D := (dC, dI)) (ci := 0) (v := .ref (ad 2)) (C := R_L) (T := F_L) (N := 2) hx hb hts (fun w h => gm (i_L w h)) hown hK G.1 0 rfl rfl 1 (by decide) (hts _ (gm tw_58)) (fun _ h9 => h9) rfl d_L_cast_II_94 ?_
              refine lv_iload_n hx hb d_L_cast_II_97 rfl (lv_at hl 1 rfl) ?_
              refine va_lald hx hb hK G.1 2 0 rfl rfl (in_isStore c1) d_L_cast_II_98 ?_
              refine pu_i (As := [.long (sT S x1.toNatClampNeg)]) (rest := []) ⟨hx, hb, hml, hown, hts⟩ (c_I_toInt_J l _ (sT S x1.toNatClampNeg)) pu_pre (gw_call (k := 1) hts tw_343 tw_344 tw_5 tw_345 (by decide +kernel) rfl rfl ⟨Nat.le_of_ble_eq_true rfl, Nat.le_of_ble_eq_true rfl⟩) rfl hl.1 rfl (Nat.le_of_ble_eq_true rfl) ⟨Nat.zero_le _, Nat.zero_le _⟩ d_L_cast_II_99 ?_
              refine lv_i2b hx hb d_L_cast_II_102 rfl ?_
              refine lv_i2l hx hb d_L_cast_II_103 rfl ?_
              exact hg_lret hx hb hr hlocks hK hAe G (by have e9 : f_L_cast_II S x1 x2 = _ := (Eq.trans (if_neg c1) (Eq.trans (if_neg c2) (Eq.trans (if_neg c3) (Eq.trans (if_neg c4) (Eq.trans (if_neg c5) (if_pos c6)))))); exact ⟨Eq.symm e9, rfl⟩) d_L_cast_II_104
            · skip
              refine lv_tableOut (tgt := 105) hx hb d_L_cast_II_12 (sw_out (fun j h1 h2 e => by rcases (show j = 0 ∨ j = 1 ∨ j = 2 ∨ j = 3 ∨ j = 4 by omega) with rfl | rfl | rfl | rfl | rfl <;> first | exact c2 (Int32.toInt_inj.mp (e.trans (by decide))) | exact c3 (Int32.toInt_inj.mp (e.trans (by decide))) | exact c4 (Int32.toInt_inj.mp (e.trans (by decide))) | exact c5 (Int32.toInt_inj.mp (e.trans (by decide))) | exact c6 (Int32.toInt_inj.mp (e.trans (by decide))))) (by decide) ?_
              refine lv_ldc2 (v := (4611686018427387904 : Int64)) hx hb hown (hts _ (gm tw_342)) d_L_cast_II_105 ?_
              exact hg_lret hx hb hr hlocks hK hAe G (by have e9 : f_L_cast_II S x1 x2 = _ := (Eq.trans (if_neg c1) (Eq.trans (if_neg c2) (Eq.trans (if_neg c3) (Eq.trans (if_neg c4) (Eq.trans (if_neg c5) (if_neg c6)))))); exact ⟨Eq.symm e9, rfl⟩) d_L_cast_II_108
  · refine lv_ldc2 (v := (4611686018427387904 : Int64)) hx hb hown (hts _ (gm tw_342)) d_L_cast_II_7 ?_
    exact hg_lret hx hb hr hlocks hK hAe G (by have e9 : f_L_cast_II S x1 x2 = _ := (if_pos c1); exact ⟨Eq.symm e9, rfl⟩) d_L_cast_II_10
-- ===== MotionLab.compare(II)I 
abbrev y_L_compare_II : MethodName := ⟨"MotionLab", "compare", "(II)I"⟩
abbrev b_L_compare_II : ByteArray := prog_1_method_13_code
theorem d_L_compare_II_0 : decode b_L_compare_II 0 = .ok (.iload_n 1, 1) := by decide +kernel
theorem d_L_compare_II_1 : decode b_L_compare_II 1 = .ok (.invokestatic 76, 3) := by decide +kernel
theorem d_L_compare_II_4 : decode b_L_compare_II 4 = .ok (.ifCond .eq 10, 3) := by decide +kernel
theorem d_L_compare_II_7 : decode b_L_compare_II 7 = .ok (.iload_n 2, 1) := by decide +kernel
theorem d_L_compare_II_8 : decode b_L_compare_II 8 = .ok (.invokestatic 76, 3) := by decide +kernel
theorem d_L_compare_II_11 : decode b_L_compare_II 11 = .ok (.ifCond .ne 5, 3) := by decide +kernel
theorem d_L_compare_II_14 : decode b_L_compare_II 14 = .ok (.iconst (-1), 1) := by decide +kernel
theorem d_L_compare_II_15 : decode b_L_compare_II 15 = .ok (.ireturn, 1) := by decide +kernel
theorem d_L_compare_II_16 : decode b_L_compare_II 16 = .ok (.aload_n 0, 1) := by decide +kernel
theorem d_L_compare_II_17 : decode b_L_compare_II 17 = .ok (.getfield 16, 3) := by decide +kernel
theorem d_L_compare_II_20 : decode b_L_compare_II 20 = .ok (.iload_n 1, 1) := by decide +kernel
theorem d_L_compare_II_21 : decode b_L_compare_II 21 = .ok (.laload, 1) := by decide +kernel
theorem d_L_compare_II_22 : decode b_L_compare_II 22 = .ok (.invokestatic 102, 3) := by decide +kernel
theorem d_L_compare_II_25 : decode b_L_compare_II 25 = .ok (.ifCond .ne 15, 3) := by decide +kernel
theorem d_L_compare_II_28 : decode b_L_compare_II 28 = .ok (.aload_n 0, 1) := by decide +kernel
theorem d_L_compare_II_29 : decode b_L_compare_II 29 = .ok (.getfield 16, 3) := by decide +kernel
theorem d_L_compare_II_32 : decode b_L_compare_II 32 = .ok (.iload_n 2, 1) := by decide +kernel
theorem d_L_compare_II_33 : decode b_L_compare_II 33 = .ok (.laload, 1) := by decide +kernel
theorem d_L_compare_II_34 : decode b_L_compare_II 34 = .ok (.invokestatic 102, 3) := by decide +kernel
theorem d_L_compare_II_37 : decode b_L_compare_II 37 = .ok (.ifCond .eq 6, 3) := by decide +kernel
theorem d_L_compare_II_40 : decode b_L_compare_II 40 = .ok (.bipush 8, 2) := by decide +kernel
theorem d_L_compare_II_42 : decode b_L_compare_II 42 = .ok (.ireturn, 1) := by decide +kernel
theorem d_L_compare_II_43 : decode b_L_compare_II 43 = .ok (.aload_n 0, 1) := by decide +kernel
theorem d_L_compare_II_44 : decode b_L_compare_II 44 = .ok (.getfield 16, 3) := by decide +kernel
theorem d_L_compare_II_47 : decode b_L_compare_II 47 = .ok (.iload_n 1, 1) := by decide +kernel
theorem d_L_compare_II_48 : decode b_L_compare_II 48 = .ok (.laload, 1) := by decide +kernel
theorem d_L_compare_II_49 : decode b_L_compare_II 49 = .ok (.aload_n 0, 1) := by decide +kernel
theorem d_L_compare_II_50 : decode b_L_compare_II 50 = .ok (.getfield 16, 3) := by decide +kernel
theorem d_L_compare_II_53 : decode b_L_compare_II 53 = .ok (.iload_n 2, 1) := by decide +kernel
theorem d_L_compare_II_54 : decode b_L_compare_II 54 = .ok (.laload, 1) := by decide +kernel
theorem d_L_compare_II_55 : decode b_L_compare_II 55 = .ok (.invokestatic 106, 3) := by decide +kernel
theorem d_L_compare_II_58 : decode b_L_compare_II 58 = .ok (.ifCond .eq 6, 3) := by decide +kernel
theorem d_L_compare_II_61 : decode b_L_compare_II 61 = .ok (.bipush 11, 2) := by decide +kernel
theorem d_L_compare_II_63 : decode b_L_compare_II 63 = .ok (.ireturn, 1) := by decide +kernel
theorem d_L_compare_II_64 : decode b_L_compare_II 64 = .ok (.aload_n 0, 1) := by decide +kernel
theorem d_L_compare_II_65 : decode b_L_compare_II 65 = .ok (.getfield 16, 3) := by decide +kernel
theorem d_L_compare_II_68 : decode b_L_compare_II 68 = .ok (.iload_n 2, 1) := by decide +kernel
theorem d_L_compare_II_69 : decode b_L_compare_II 69 = .ok (.laload, 1) := by decide +kernel
theorem d_L_compare_II_70 : decode b_L_compare_II 70 = .ok (.aload_n 0, 1) := by decide +kernel
theorem d_L_compare_II_71 : decode b_L_compare_II 71 = .ok (.getfield 16, 3) := by decide +kernel
theorem d_L_compare_II_74 : decode b_L_compare_II 74 = .ok (.iload_n 1, 1) := by decide +kernel
theorem d_L_compare_II_75 : decode b_L_compare_II 75 = .ok (.laload, 1) := by decide +kernel
theorem d_L_compare_II_76 : decode b_L_compare_II 76 = .ok (.invokestatic 106, 3) := by decide +kernel
theorem d_L_compare_II_79 : decode b_L_compare_II 79 = .ok (.ifCond .eq 8, 3) := by decide +kernel
theorem d_L_compare_II_82 : decode b_L_compare_II 82 = .ok (.bipush 56, 2) := by decide +kernel
theorem d_L_compare_II_84 : decode b_L_compare_II 84 = .ok (.goto 5, 3) := by decide +kernel
theorem d_L_compare_II_87 : decode b_L_compare_II 87 = .ok (.bipush 22, 2) := by decide +kernel
theorem d_L_compare_II_89 : decode b_L_compare_II 89 = .ok (.ireturn, 1) := by decide +kernel
def f_L_compare_II (S : CS) (x1 : Int32) (x2 : Int32) : Int32 :=
  if (f_L_isStore_I x1) = 0 then
    (-1 : Int32)
  else
    if (f_L_isStore_I x2) = 0 then
      (-1 : Int32)
    else
      if (f_I_isNoNumber_J (sT S x1.toNatClampNeg)) = 0 then
        if (f_I_isNoNumber_J (sT S x2.toNatClampNeg)) = 0 then
          if (f_I_less_JJ (sT S x1.toNatClampNeg) (sT S x2.toNatClampNeg)) = 0 then
            if (f_I_less_JJ (sT S x2.toNatClampNeg) (sT S x1.toNatClampNeg)) = 0 then
              (22 : Int32)
            else
              (56 : Int32)
          else
            (11 : Int32)
        else
          (8 : Int32)
      else
        (8 : Int32)
set_option maxHeartbeats 4000000 in
set_option maxRecDepth 100000 in
theorem c_L_compare_II (l : Launch) (dC : Nat → ClassId) (dI : Nat → Nat → Nat) (ad : Nat → Nat) (cJ cI : ClassId) (S : CS) (x1 : Int32) (x2 : Int32) (sz : Nat) : hMi l y_L_compare_II (gw y_L_compare_II b_L_compare_II 3 (some .int)) { frames := 2, cells := 0, slots := 0, locals := 44 } [.ref (ad 0), .int x1, .int x2] (dC, dI) classes (tysJI cJ cI) (fun _ => True) (cW ad cJ cI S) sz (f_L_compare_II S x1 x2) (cW ad cJ cI S) := by
  refine Met.ofW (cc := b_L_compare_II) (maxL := 3) (ret := (some .int)) (by decide) rfl ?_
  intro p e s m args below meth c s₁ B hml hv
  obtain ⟨rfl, hsz, hP, hK, hD0, hRT⟩ := hv
  have hx := B.exec
  have hb := B.bytes
  have hr := B.returns
  have hts := atoms_spec (ws := (gw y_L_compare_II b_L_compare_II 3 (some .int))) B.pre
  have hown : s.vm.findClass "MotionLab" = some m.cls := findClass_of_methodNamed B.named
  have hlocks := B.notSynchronized
  subst hsz
  have hD := hD0.self (sz := s.heap.size)
  generalize hAe : va_A (cW ad cJ cI S) s.heap.size = A at hD
  have hA : ∀ q : Nat, s.heap.size ≤ q → A q := fun q h => by rw [← hAe]; exact Or.inr h
  have G : hG (dC, dI) classes A s.heap (cW ad cJ cI S) s.heap [] := ⟨hP, hD, va_S.rf⟩
  have hl := lv_entry ([.ref (ad 0), .int x1, .int x2]) (n := 3) (Nat.le_of_ble_eq_true rfl)
  rw [lg_entry_eq]
  generalize (lg_sl ([.ref (ad 0), .int x1, .int x2]) ++ List.replicate (3 - (lg_sl ([.ref (ad 0), .int x1, .int x2])).length) Slot.unset).toArray = ls at hl ⊢
  have hl : lv_has ls 3 [(0, .ref (ad 0)), (1, .int x1), (2, .int x2)] := hl
  refine lv_iload_n hx hb d_L_compare_II_0 rfl (lv_at hl 1 rfl) ?_
  refine pu_i (As := [.int x1]) (rest := []) ⟨hx, hb, hml, hown, hts⟩ (c_L_isStore_I l _ x1) pu_pre (gw_call (k := 1) hts tw_290 tw_291 tw_1 tw_292 (by decide +kernel) rfl rfl ⟨Nat.le_of_ble_eq_true rfl, Nat.le_of_ble_eq_true rfl⟩) rfl hl.1 rfl (Nat.le_of_ble_eq_true rfl) ⟨Nat.zero_le _, Nat.zero_le _⟩ d_L_compare_II_1 ?_
  refine lv_if_eq (tgt := 14) hx hb d_L_compare_II_4 (by decide) (fun c1 => ?_) (fun c1 => ?_)
  · refine lv_iconst (v := (-1)) hx hb d_L_compare_II_14 (by decide) ?_
    exact hg_iret hx hb hr hlocks hK hAe G (by have e9 : f_L_compare_II S x1 x2 = _ := (if_pos c1); exact ⟨Eq.symm e9, rfl⟩) d_L_compare_II_15
  · refine lv_iload_n hx hb d_L_compare_II_7 rfl (lv_at hl 2 rfl) ?_
    refine pu_i (As := [.int x2]) (rest := []) ⟨hx, hb, hml, hown, hts⟩ (c_L_isStore_I l _ x2) pu_pre (gw_call (k := 1) hts tw_290 tw_291 tw_1 tw_292 (by decide +kernel) rfl rfl ⟨Nat.le_of_ble_eq_true rfl, Nat.le_of_ble_eq_true rfl⟩) rfl hl.1 rfl (Nat.le_of_ble_eq_true rfl) ⟨Nat.zero_le _, Nat.zero_le _⟩ d_L_compare_II_8 ?_
    refine lv_if_ne (tgt := 16) hx hb d_L_compare_II_11 (by decide) (fun c2 => ?_) (fun c2 => ?_)
    · refine lv_aload_n hx hb d_L_compare_II_16 rfl (lv_at hl 0 rfl) ?_
      refine va_get (D := (dC, dI)) (ci := 0) (v := .ref (ad 2)) (C := R_L) (T := F_L) (N := 2) hx hb hts (fun w h => gm (i_L w h)) hown hK G.1 0 rfl rfl 1 (by decide) (hts _ (gm tw_58)) (fun _ h9 => h9) rfl d_L_compare_II_17 ?_
      refine lv_iload_n hx hb d_L_compare_II_20 rfl (lv_at hl 1 rfl) ?_
      refine va_lald hx hb hK G.1 2 0 rfl rfl (in_isStore c1) d_L_compare_II_21 ?_
      refine pu_i (As := [.long (sT S x1.toNatClampNeg)]) (rest := []) ⟨hx, hb, hml, hown, hts⟩ (c_I_isNoNumber_J l _ (sT S x1.toNatClampNeg)) pu_pre (gw_call (k := 1) hts tw_362 tw_90 tw_5 tw_91 (by decide +kernel) rfl rfl ⟨Nat.le_of_ble_eq_true rfl, Nat.le_of_ble_eq_true rfl⟩) rfl hl.1 rfl (Nat.le_of_ble_eq_true rfl) ⟨Nat.zero_le _, Nat.zero_le _⟩ d_L_compare_II_22 ?_
      refine lv_if_ne (tgt := 40) hx hb d_L_compare_II_25 (by decide) (fun c3 => ?_) (fun c3 => ?_)
      · refine lv_bipush (v := (8 : Int32)) hx hb d_L_compare_II_40 (by decide) ?_
        exact hg_iret hx hb hr hlocks hK hAe G (by have e9 : f_L_compare_II S x1 x2 = _ := (Eq.trans (if_neg c1) (Eq.trans (if_neg c2) (if_neg c3))); exact ⟨Eq.symm e9, rfl⟩) d_L_compare_II_42
      · refine lv_aload_n hx hb d_L_compare_II_28 rfl (lv_at hl 0 rfl) ?_
        refine va_get (D := (dC, dI)) (ci := 0) (v := .ref (ad 2)) (C := R_L) (T := F_L) (N := 2) hx hb hts (fun w h => gm (i_L w h)) hown hK G.1 0 rfl rfl 1 (by decide) (hts _ (gm tw_58)) (fun _ h9 => h9) rfl d_L_compare_II_29 ?_
        refine lv_iload_n hx hb d_L_compare_II_32 rfl (lv_at hl 2 rfl) ?_
        refine va_lald hx hb hK G.1 2 0 rfl rfl (in_isStore c2) d_L_compare_II_33 ?_
        refine pu_i (As := [.long (sT S x2.toNatClampNeg)]) (rest := []) ⟨hx, hb, hml, hown, hts⟩ (c_I_isNoNumber_J l _ (sT S x2.toNatClampNeg)) pu_pre (gw_call (k := 1) hts tw_362 tw_90 tw_5 tw_91 (by decide +kernel) rfl rfl ⟨Nat.le_of_ble_eq_true rfl, Nat.le_of_ble_eq_true rfl⟩) rfl hl.1 rfl (Nat.le_of_ble_eq_true rfl) ⟨Nat.zero_le _, Nat.zero_le _⟩ d_L_compare_II_34 ?_
        refine lv_if_eq (tgt := 43) hx hb d_L_compare_II_37 (by decide) (fun c4 => ?_) (fun c4 => ?_)
        · refine lv_aload_n hx hb d_L_compare_II_43 rfl (lv_at hl 0 rfl) ?_
          refine va_get (D := (dC, dI)) (ci := 0) (v := .ref (ad 2)) (C := R_L) (T := F_L) (N := 2) hx hb hts (fun w h => gm (i_L w h)) hown hK G.1 0 rfl rfl 1 (by decide) (hts _ (gm tw_58)) (fun _ h9 => h9) rfl d_L_compare_II_44 ?_
          refine lv_iload_n hx hb d_L_compare_II_47 rfl (lv_at hl 1 rfl) ?_
          refine va_lald hx hb hK G.1 2 0 rfl rfl (in_isStore c1) d_L_compare_II_48 ?_
          refine lv_aload_n hx hb d_L_compare_II_49 rfl (lv_at hl 0 rfl) ?_
          refine va_get (D := (dC, dI)) (ci := 0) (v := .ref (ad 2)) (C := R_L) (T := F_L) (N := 2) hx hb hts (fun w h => gm (i_L w h)) hown hK G.1 0 rfl rfl 1 (by decide) (hts _ (gm tw_58)) (fun _ h9 => h9) rfl d_L_compare_II_50 ?_
          refine lv_iload_n hx hb d_L_compare_II_53 rfl (lv_at hl 2 rfl) ?_
          refine va_lald hx hb hK G.1 2 0 rfl rfl (in_isStore c2) d_L_compare_II_54 ?_
          refine pu_i (As := [.long (sT S x1.toNatClampNeg), .long (sT S x2.toNatClampNeg)]) (rest := []) ⟨hx, hb, hml, hown, hts⟩ (c_I_less_JJ l _ (sT S x1.toNatClampNeg) (sT S x2.toNatClampNeg)) pu_pre (gw_call (k := 2) hts tw_363 tw_231 tw_5 tw_232 (by decide +kernel) rfl rfl ⟨Nat.le_of_ble_eq_true rfl, Nat.le_of_ble_eq_true rfl⟩) rfl hl.1 rfl (Nat.le_of_ble_eq_true rfl) ⟨Nat.zero_le _, Nat.zero_le _⟩ d_L_compare_II_55 ?_
          refine lv_if_eq (tgt := 64) hx hb d_L_compare_II_58 (by decide) (fun c5 => ?_) (fun c5 => ?_)
          · refine lv_aload_n hx hb d_L_compare_II_64 rfl (lv_at hl 0 rfl) ?_
            refine va_get (D := (dC, dI)) (ci := 0) (v := .ref (ad 2)) (C := R_L) (T := F_L) (N := 2) hx hb hts (fun w h => gm (i_L w h)) hown hK G.1 0 rfl rfl 1 (by decide) (hts _ (gm tw_58)) (fun _ h9 => h9) rfl d_L_compare_II_65 ?_
            refine lv_iload_n hx hb d_L_compare_II_68 rfl (lv_at hl 2 rfl) ?_
            refine va_lald hx hb hK G.1 2 0 rfl rfl (in_isStore c2) d_L_compare_II_69 ?_
            refine lv_aload_n hx hb d_L_compare_II_70 rfl (lv_at hl 0 rfl) ?_
            refine va_get (D := (dC, dI)) (ci := 0) (v := .ref (ad 2)) (C := R_L) (T := F_L) (N := 2) hx hb hts (fun w h => gm (i_L w h)) hown hK G.1 0 rfl rfl 1 (by decide) (hts _ (gm tw_58)) (fun _ h9 => h9) rfl d_L_compare_II_71 ?_
            refine lv_iload_n hx hb d_L_compare_II_74 rfl (lv_at hl 1 rfl) ?_
            refine va_lald hx hb hK G.1 2 0 rfl rfl (in_isStore c1) d_L_compare_II_75 ?_
            refine pu_i (As := [.long (sT S x2.toNatClampNeg), .long (sT S x1.toNatClampNeg)]) (rest := []) ⟨hx, hb, hml, hown, hts⟩ (c_I_less_JJ l _ (sT S x2.toNatClampNeg) (sT S x1.toNatClampNeg)) pu_pre (gw_call (k := 2) hts tw_363 tw_231 tw_5 tw_232 (by decide +kernel) rfl rfl ⟨Nat.le_of_ble_eq_true rfl, Nat.le_of_ble_eq_true rfl⟩) rfl hl.1 rfl (Nat.le_of_ble_eq_true rfl) ⟨Nat.zero_le _, Nat.zero_le _⟩ d_L_compare_II_76 ?_
            refine lv_if_eq (tgt := 87) hx hb d_L_compare_II_79 (by decide) (fun c6 => ?_) (fun c6 => ?_)
            · refine lv_bipush (v := (22 : Int32)) hx hb d_L_compare_II_87 (by decide) ?_
              exact hg_iret hx hb hr hlocks hK hAe G (by have e9 : f_L_compare_II S x1 x2 = _ := (Eq.trans (if_neg c1) (Eq.trans (if_neg c2) (Eq.trans (if_pos c3) (Eq.trans (if_pos c4) (Eq.trans (if_pos c5) (if_pos c6)))))); exact ⟨Eq.symm e9, rfl⟩) d_L_compare_II_89
            · refine lv_bipush (v := (56 : Int32)) hx hb d_L_compare_II_82 (by decide) ?_
              refine lv_goto (tgt := 89) hx hb d_L_compare_II_84 (by decide) ?_
              exact hg_iret hx hb hr hlocks hK hAe G (by have e9 : f_L_compare_II S x1 x2 = _ := (Eq.trans (if_neg c1) (Eq.trans (if_neg c2) (Eq.trans (if_pos c3) (Eq.trans (if_pos c4) (Eq.trans (if_pos c5) (if_neg c6)))))); exact ⟨Eq.symm e9, rfl⟩) d_L_compare_II_89
          · refine lv_bipush (v := (11 : Int32)) hx hb d_L_compare_II_61 (by decide) ?_
            exact hg_iret hx hb hr hlocks hK hAe G (by have e9 : f_L_compare_II S x1 x2 = _ := (Eq.trans (if_neg c1) (Eq.trans (if_neg c2) (Eq.trans (if_pos c3) (Eq.trans (if_pos c4) (if_neg c5))))); exact ⟨Eq.symm e9, rfl⟩) d_L_compare_II_63
        · refine lv_bipush (v := (8 : Int32)) hx hb d_L_compare_II_40 (by decide) ?_
          exact hg_iret hx hb hr hlocks hK hAe G (by have e9 : f_L_compare_II S x1 x2 = _ := (Eq.trans (if_neg c1) (Eq.trans (if_neg c2) (Eq.trans (if_pos c3) (if_neg c4)))); exact ⟨Eq.symm e9, rfl⟩) d_L_compare_II_42
    · refine lv_iconst (v := (-1)) hx hb d_L_compare_II_14 (by decide) ?_
      exact hg_iret hx hb hr hlocks hK hAe G (by have e9 : f_L_compare_II S x1 x2 = _ := (Eq.trans (if_neg c1) (if_pos c2)); exact ⟨Eq.symm e9, rfl⟩) d_L_compare_II_15
-- ===== MotionLab$Plane.energyOfMotion(I)J 
abbrev y_P_energyOfMotion_I : MethodName := ⟨"MotionLab$Plane", "energyOfMotion", "(I)J"⟩
abbrev b_P_energyOfMotion_I : ByteArray := prog_3_method_18_code
theorem d_P_energyOfMotion_I_0 : decode b_P_energyOfMotion_I 0 = .ok (.aload_n 0, 1) := by decide +kernel
theorem d_P_energyOfMotion_I_1 : decode b_P_energyOfMotion_I 1 = .ok (.getfield 9, 3) := by decide +kernel
theorem d_P_energyOfMotion_I_4 : decode b_P_energyOfMotion_I 4 = .ok (.bipush 16, 2) := by decide +kernel
theorem d_P_energyOfMotion_I_6 : decode b_P_energyOfMotion_I 6 = .ok (.iload_n 1, 1) := by decide +kernel
theorem d_P_energyOfMotion_I_7 : decode b_P_energyOfMotion_I 7 = .ok (.iadd, 1) := by decide +kernel
theorem d_P_energyOfMotion_I_8 : decode b_P_energyOfMotion_I 8 = .ok (.laload, 1) := by decide +kernel
theorem d_P_energyOfMotion_I_9 : decode b_P_energyOfMotion_I 9 = .ok (.lstore_n 2, 1) := by decide +kernel
theorem d_P_energyOfMotion_I_10 : decode b_P_energyOfMotion_I 10 = .ok (.aload_n 0, 1) := by decide +kernel
theorem d_P_energyOfMotion_I_11 : decode b_P_energyOfMotion_I 11 = .ok (.getfield 9, 3) := by decide +kernel
theorem d_P_energyOfMotion_I_14 : decode b_P_energyOfMotion_I 14 = .ok (.bipush 24, 2) := by decide +kernel
theorem d_P_energyOfMotion_I_16 : decode b_P_energyOfMotion_I 16 = .ok (.iload_n 1, 1) := by decide +kernel
theorem d_P_energyOfMotion_I_17 : decode b_P_energyOfMotion_I 17 = .ok (.iadd, 1) := by decide +kernel
theorem d_P_energyOfMotion_I_18 : decode b_P_energyOfMotion_I 18 = .ok (.laload, 1) := by decide +kernel
theorem d_P_energyOfMotion_I_19 : decode b_P_energyOfMotion_I 19 = .ok (.lstore 4, 2) := by decide +kernel
theorem d_P_energyOfMotion_I_21 : decode b_P_energyOfMotion_I 21 = .ok (.ldc2_w 124, 3) := by decide +kernel
theorem d_P_energyOfMotion_I_24 : decode b_P_energyOfMotion_I 24 = .ok (.aload_n 0, 1) := by decide +kernel
theorem d_P_energyOfMotion_I_25 : decode b_P_energyOfMotion_I 25 = .ok (.getfield 9, 3) := by decide +kernel
theorem d_P_energyOfMotion_I_28 : decode b_P_energyOfMotion_I 28 = .ok (.bipush 32, 2) := by decide +kernel
theorem d_P_energyOfMotion_I_30 : decode b_P_energyOfMotion_I 30 = .ok (.iload_n 1, 1) := by decide +kernel
theorem d_P_energyOfMotion_I_31 : decode b_P_energyOfMotion_I 31 = .ok (.iadd, 1) := by decide +kernel
theorem d_P_energyOfMotion_I_32 : decode b_P_energyOfMotion_I 32 = .ok (.laload, 1) := by decide +kernel
theorem d_P_energyOfMotion_I_33 : decode b_P_energyOfMotion_I 33 = .ok (.invokestatic 86, 3) := by decide +kernel
theorem d_P_energyOfMotion_I_36 : decode b_P_energyOfMotion_I 36 = .ok (.lload_n 2, 1) := by decide +kernel
theorem d_P_energyOfMotion_I_37 : decode b_P_energyOfMotion_I 37 = .ok (.lload_n 2, 1) := by decide +kernel
theorem d_P_energyOfMotion_I_38 : decode b_P_energyOfMotion_I 38 = .ok (.lload 4, 2) := by decide +kernel
theorem d_P_energyOfMotion_I_40 : decode b_P_energyOfMotion_I 40 = .ok (.lload 4, 2) := by decide +kernel
theorem d_P_energyOfMotion_I_42 : decode b_P_energyOfMotion_I 42 = .ok (.invokestatic 96, 3) := by decide +kernel
theorem d_P_energyOfMotion_I_45 : decode b_P_energyOfMotion_I 45 = .ok (.invokestatic 86, 3) := by decide +kernel
theorem d_P_energyOfMotion_I_48 : decode b_P_energyOfMotion_I 48 = .ok (.lreturn, 1) := by decide +kernel
def f_P_energyOfMotion_I (S : CS) (x1 : Int32) : Int64 :=
  let v1 : Int64 := sR S ((16 : Int32) + x1).toNatClampNeg
  let v2 : Int64 := sR S ((24 : Int32) + x1).toNatClampNeg
  f_I_product_JJ (f_I_product_JJ (4602678819172646912 : Int64) (sR S ((32 : Int32) + x1).toNatClampNeg)) (f_I_products_JJJJ v1 v1 v2 v2)
set_option maxHeartbeats 4000000 in
set_option maxRecDepth 100000 in
theorem c_P_energyOfMotion_I (l : Launch) (dC : Nat → ClassId) (dI : Nat → Nat → Nat) (ad : Nat → Nat) (cJ cI : ClassId) (S : CS) (x1 : Int32) (hk_x1 : vp_in x1 8) (sz : Nat) : hMl l y_P_energyOfMotion_I (gw y_P_energyOfMotion_I b_P_energyOfMotion_I 6 (some .long)) { frames := 5, cells := 0, slots := 0, locals := 131 } [.ref (ad 1), .int x1] (dC, dI) classes (tysJI cJ cI) (fun _ => True) (cW ad cJ cI S) sz (f_P_energyOfMotion_I S x1) (cW ad cJ cI S) := by
  refine Met.ofW (cc := b_P_energyOfMotion_I) (maxL := 6) (ret := (some .long)) (by decide) rfl ?_
  intro p e s m args below meth c s₁ B hml hv
  obtain ⟨rfl, hsz, hP, hK, hD0, hRT⟩ := hv
  have hx := B.exec
  have hb := B.bytes
  have hr := B.returns
  have hts := atoms_spec (ws := (gw y_P_energyOfMotion_I b_P_energyOfMotion_I 6 (some .long))) B.pre
  have hown : s.vm.findClass "MotionLab$Plane" = some m.cls := findClass_of_methodNamed B.named
  have hlocks := B.notSynchronized
  subst hsz
  have hD := hD0.self (sz := s.heap.size)
  generalize hAe : va_A (cW ad cJ cI S) s.heap.size = A at hD
  have hA : ∀ q : Nat, s.heap.size ≤ q → A q := fun q h => by rw [← hAe]; exact Or.inr h
  have G : hG (dC, dI) classes A s.heap (cW ad cJ cI S) s.heap [] := ⟨hP, hD, va_S.rf⟩
  have hl := lv_entry ([.ref (ad 1), .int x1]) (n := 6) (Nat.le_of_ble_eq_true rfl)
  rw [lg_entry_eq]
  generalize (lg_sl ([.ref (ad 1), .int x1]) ++ List.replicate (6 - (lg_sl ([.ref (ad 1), .int x1])).length) Slot.unset).toArray = ls at hl ⊢
  have hl : lv_has ls 6 [(0, .ref (ad 1)), (1, .int x1)] := hl
  refine lv_aload_n hx hb d_P_energyOfMotion_I_0 rfl (lv_at hl 0 rfl) ?_
  refine va_get (D := (dC, dI)) (ci := 1) (v := .ref (ad 3)) (C := R_P) (T := F_P) (N := 3) hx hb hts (fun w h => gm (i_P w h)) hown hK G.1 1 rfl rfl 0 (by decide) (hts _ (gm tw_46)) (fun _ h9 => h9) rfl d_P_energyOfMotion_I_1 ?_
  refine lv_bipush (v := (16 : Int32)) hx hb d_P_energyOfMotion_I_4 (by decide) ?_
  refine lv_iload_n hx hb d_P_energyOfMotion_I_6 rfl (lv_at hl 1 rfl) ?_
  refine lv_iadd hx hb d_P_energyOfMotion_I_7 ?_
  refine va_lald hx hb hK G.1 3 0 rfl rfl (in_al hk_x1 (by decide)) d_P_energyOfMotion_I_8 ?_
  refine lv_topl (fun v1 e1 => ?_)
  refine lv_lstore_n (lv' := [(2, .long v1), (0, .ref (ad 1)), (1, .int x1)]) hx hb d_P_energyOfMotion_I_9 rfl hl (by decide) rfl (fun ls hl => ?_)
  refine lv_aload_n hx hb d_P_energyOfMotion_I_10 rfl (lv_at hl 1 rfl) ?_
  refine va_get (D := (dC, dI)) (ci := 1) (v := .ref (ad 3)) (C := R_P) (T := F_P) (N := 3) hx hb hts (fun w h => gm (i_P w h)) hown hK G.1 1 rfl rfl 0 (by decide) (hts _ (gm tw_46)) (fun _ h9 => h9) rfl d_P_energyOfMotion_I_11 ?_
  refine lv_bipush (v := (24 : Int32)) hx hb d_P_energyOfMotion_I_14 (by decide) ?_
  refine lv_iload_n hx hb d_P_energyOfMotion_I_16 rfl (lv_at hl 2 rfl) ?_
  refine lv_iadd hx hb d_P_energyOfMotion_I_17 ?_
  refine va_lald hx hb hK G.1 3 0 rfl rfl (in_al hk_x1 (by decide)) d_P_energyOfMotion_I_18 ?_
  refine lv_topl (fun v2 e2 => ?_)
  refine lv_lstore (lv' := [(4, .long v2), (2, .long v1), (0, .ref (ad 1)), (1, .int x1)]) hx hb d_P_energyOfMotion_I_19 hl (by decide) rfl (fun ls hl => ?_)
  refine lv_ldc2 (v := (4602678819172646912 : Int64)) hx hb hown (hts _ (gm tw_376)) d_P_energyOfMotion_I_21 ?_
  refine lv_aload_n hx hb d_P_energyOfMotion_I_24 rfl (lv_at hl 2 rfl) ?_
  refine va_get (D := (dC, dI)) (ci := 1) (v := .ref (ad 3)) (C := R_P) (T := F_P) (N := 3) hx hb hts (fun w h => gm (i_P w h)) hown hK G.1 1 rfl rfl 0 (by decide) (hts _ (gm tw_46)) (fun _ h9 => h9) rfl d_P_energyOfMotion_I_25 ?_
  refine lv_bipush (v := (32 : Int32)) hx hb d_P_energyOfMotion_I_28 (by decide) ?_
  refine lv_iload_n hx hb d_P_energyOfMotion_I_30 rfl (lv_at hl 3 rfl) ?_
  refine lv_iadd hx hb d_P_energyOfMotion_I_31 ?_
  refine va_lald hx hb hK G.1 3 0 rfl rfl (in_al hk_x1 (by decide)) d_P_energyOfMotion_I_32 ?_
  refine pu_l (As := [.long (4602678819172646912 : Int64), .long (sR S ((32 : Int32) + x1).toNatClampNeg)]) (rest := []) ⟨hx, hb, hml, hown, hts⟩ (c_I_product_JJ l _ (4602678819172646912 : Int64) (sR S ((32 : Int32) + x1).toNatClampNeg)) pu_pre (gw_call (k := 2) hts tw_174 tw_175 tw_5 tw_176 (by decide +kernel) rfl rfl ⟨Nat.le_of_ble_eq_true rfl, Nat.le_of_ble_eq_true rfl⟩) rfl hl.1 rfl (Nat.le_of_ble_eq_true rfl) ⟨Nat.zero_le _, Nat.zero_le _⟩ d_P_energyOfMotion_I_33 ?_
  refine lv_lload_n hx hb d_P_energyOfMotion_I_36 rfl (lv_at hl 1 rfl) ?_
  refine lv_lload_n hx hb d_P_energyOfMotion_I_37 rfl (lv_at hl 1 rfl) ?_
  refine lv_lload hx hb d_P_energyOfMotion_I_38 (lv_at hl 0 rfl) ?_
  refine lv_lload hx hb d_P_energyOfMotion_I_40 (lv_at hl 0 rfl) ?_
  refine pu_l (As := [.long v1, .long v1, .long v2, .long v2]) (rest := [.long (f_I_product_JJ (4602678819172646912 : Int64) (sR S ((32 : Int32) + x1).toNatClampNeg))]) ⟨hx, hb, hml, hown, hts⟩ (c_I_products_JJJJ l _ v1 v1 v2 v2) pu_pre (gw_call (k := 4) hts tw_215 tw_216 tw_5 tw_217 (by decide +kernel) rfl rfl ⟨Nat.le_of_ble_eq_true rfl, Nat.le_of_ble_eq_true rfl⟩) rfl hl.1 rfl (Nat.le_of_ble_eq_true rfl) ⟨Nat.zero_le _, Nat.zero_le _⟩ d_P_energyOfMotion_I_42 ?_
  refine pu_l (As := [.long (f_I_product_JJ (4602678819172646912 : Int64) (sR S ((32 : Int32) + x1).toNatClampNeg)), .long (f_I_products_JJJJ v1 v1 v2 v2)]) (rest := []) ⟨hx, hb, hml, hown, hts⟩ (c_I_product_JJ l _ (f_I_product_JJ (4602678819172646912 : Int64) (sR S ((32 : Int32) + x1).toNatClampNeg)) (f_I_products_JJJJ v1 v1 v2 v2)) pu_pre (gw_call (k := 2) hts tw_174 tw_175 tw_5 tw_176 (by decide +kernel) rfl rfl ⟨Nat.le_of_ble_eq_true rfl, Nat.le_of_ble_eq_true rfl⟩) rfl hl.1 rfl (Nat.le_of_ble_eq_true rfl) ⟨Nat.zero_le _, Nat.zero_le _⟩ d_P_energyOfMotion_I_45 ?_
  exact hg_lret hx hb hr hlocks hK hAe G (by have qe1 := e1.symm; have qe2 := e2.symm; subst qe1 qe2; exact ⟨rfl, rfl⟩) d_P_energyOfMotion_I_48
-- ===== MotionLab$Plane.energyOfPlace(I)J 
abbrev y_P_energyOfPlace_I : MethodName := ⟨"MotionLab$Plane", "energyOfPlace", "(I)J"⟩
abbrev b_P_energyOfPlace_I : ByteArray := prog_3_method_19_code
theorem d_P_energyOfPlace_I_0 : decode b_P_energyOfPlace_I 0 = .ok (.aload_n 0, 1) := by decide +kernel
theorem d_P_energyOfPlace_I_1 : decode b_P_energyOfPlace_I 1 = .ok (.getfield 13, 3) := by decide +kernel
theorem d_P_energyOfPlace_I_4 : decode b_P_energyOfPlace_I 4 = .ok (.iconst 0, 1) := by decide +kernel
theorem d_P_energyOfPlace_I_5 : decode b_P_energyOfPlace_I 5 = .ok (.laload, 1) := by decide +kernel
theorem d_P_energyOfPlace_I_6 : decode b_P_energyOfPlace_I 6 = .ok (.aload_n 0, 1) := by decide +kernel
theorem d_P_energyOfPlace_I_7 : decode b_P_energyOfPlace_I 7 = .ok (.getfield 9, 3) := by decide +kernel
theorem d_P_energyOfPlace_I_10 : decode b_P_energyOfPlace_I 10 = .ok (.iconst 0, 1) := by decide +kernel
theorem d_P_energyOfPlace_I_11 : decode b_P_energyOfPlace_I 11 = .ok (.iload_n 1, 1) := by decide +kernel
theorem d_P_energyOfPlace_I_12 : decode b_P_energyOfPlace_I 12 = .ok (.iadd, 1) := by decide +kernel
theorem d_P_energyOfPlace_I_13 : decode b_P_energyOfPlace_I 13 = .ok (.laload, 1) := by decide +kernel
theorem d_P_energyOfPlace_I_14 : decode b_P_energyOfPlace_I 14 = .ok (.aload_n 0, 1) := by decide +kernel
theorem d_P_energyOfPlace_I_15 : decode b_P_energyOfPlace_I 15 = .ok (.getfield 13, 3) := by decide +kernel
theorem d_P_energyOfPlace_I_18 : decode b_P_energyOfPlace_I 18 = .ok (.iconst 1, 1) := by decide +kernel
theorem d_P_energyOfPlace_I_19 : decode b_P_energyOfPlace_I 19 = .ok (.laload, 1) := by decide +kernel
theorem d_P_energyOfPlace_I_20 : decode b_P_energyOfPlace_I 20 = .ok (.aload_n 0, 1) := by decide +kernel
theorem d_P_energyOfPlace_I_21 : decode b_P_energyOfPlace_I 21 = .ok (.getfield 9, 3) := by decide +kernel
theorem d_P_energyOfPlace_I_24 : decode b_P_energyOfPlace_I 24 = .ok (.bipush 8, 2) := by decide +kernel
theorem d_P_energyOfPlace_I_26 : decode b_P_energyOfPlace_I 26 = .ok (.iload_n 1, 1) := by decide +kernel
theorem d_P_energyOfPlace_I_27 : decode b_P_energyOfPlace_I 27 = .ok (.iadd, 1) := by decide +kernel
theorem d_P_energyOfPlace_I_28 : decode b_P_energyOfPlace_I 28 = .ok (.laload, 1) := by decide +kernel
theorem d_P_energyOfPlace_I_29 : decode b_P_energyOfPlace_I 29 = .ok (.invokestatic 96, 3) := by decide +kernel
theorem d_P_energyOfPlace_I_32 : decode b_P_energyOfPlace_I 32 = .ok (.lstore_n 2, 1) := by decide +kernel
theorem d_P_energyOfPlace_I_33 : decode b_P_energyOfPlace_I 33 = .ok (.aload_n 0, 1) := by decide +kernel
theorem d_P_energyOfPlace_I_34 : decode b_P_energyOfPlace_I 34 = .ok (.getfield 9, 3) := by decide +kernel
theorem d_P_energyOfPlace_I_37 : decode b_P_energyOfPlace_I 37 = .ok (.bipush 32, 2) := by decide +kernel
theorem d_P_energyOfPlace_I_39 : decode b_P_energyOfPlace_I 39 = .ok (.iload_n 1, 1) := by decide +kernel
theorem d_P_energyOfPlace_I_40 : decode b_P_energyOfPlace_I 40 = .ok (.iadd, 1) := by decide +kernel
theorem d_P_energyOfPlace_I_41 : decode b_P_energyOfPlace_I 41 = .ok (.laload, 1) := by decide +kernel
theorem d_P_energyOfPlace_I_42 : decode b_P_energyOfPlace_I 42 = .ok (.lload_n 2, 1) := by decide +kernel
theorem d_P_energyOfPlace_I_43 : decode b_P_energyOfPlace_I 43 = .ok (.invokestatic 86, 3) := by decide +kernel
theorem d_P_energyOfPlace_I_46 : decode b_P_energyOfPlace_I 46 = .ok (.lreturn, 1) := by decide +kernel
def f_P_energyOfPlace_I (S : CS) (x1 : Int32) : Int64 :=
  let v1 : Int64 := f_I_products_JJJJ (sF S (0 : Int32).toNatClampNeg) (sR S ((0 : Int32) + x1).toNatClampNeg) (sF S (1 : Int32).toNatClampNeg) (sR S ((8 : Int32) + x1).toNatClampNeg)
  f_I_product_JJ (sR S ((32 : Int32) + x1).toNatClampNeg) v1
set_option maxHeartbeats 4000000 in
set_option maxRecDepth 100000 in
theorem c_P_energyOfPlace_I (l : Launch) (dC : Nat → ClassId) (dI : Nat → Nat → Nat) (ad : Nat → Nat) (cJ cI : ClassId) (S : CS) (x1 : Int32) (hk_x1 : vp_in x1 8) (sz : Nat) : hMl l y_P_energyOfPlace_I (gw y_P_energyOfPlace_I b_P_energyOfPlace_I 4 (some .long)) { frames := 5, cells := 0, slots := 0, locals := 131 } [.ref (ad 1), .int x1] (dC, dI) classes (tysJI cJ cI) (fun _ => True) (cW ad cJ cI S) sz (f_P_energyOfPlace_I S x1) (cW ad cJ cI S) := by
  refine Met.ofW (cc := b_P_energyOfPlace_I) (maxL := 4) (ret := (some .long)) (by decide) rfl ?_
  intro p e s m args below meth c s₁ B hml hv
  obtain ⟨rfl, hsz, hP, hK, hD0, hRT⟩ := hv
  have hx := B.exec
  have hb := B.bytes
  have hr := B.returns
  have hts := atoms_spec (ws := (gw y_P_energyOfPlace_I b_P_energyOfPlace_I 4 (some .long))) B.pre
  have hown : s.vm.findClass "MotionLab$Plane" = some m.cls := findClass_of_methodNamed B.named
  have hlocks := B.notSynchronized
  subst hsz
  have hD := hD0.self (sz := s.heap.size)
  generalize hAe : va_A (cW ad cJ cI S) s.heap.size = A at hD
  have hA : ∀ q : Nat, s.heap.size ≤ q → A q := fun q h => by rw [← hAe]; exact Or.inr h
  have G : hG (dC, dI) classes A s.heap (cW ad cJ cI S) s.heap [] := ⟨hP, hD, va_S.rf⟩
  have hl := lv_entry ([.ref (ad 1), .int x1]) (n := 4) (Nat.le_of_ble_eq_true rfl)
  rw [lg_entry_eq]
  generalize (lg_sl ([.ref (ad 1), .int x1]) ++ List.replicate (4 - (lg_sl ([.ref (ad 1), .int x1])).length) Slot.unset).toArray = ls at hl ⊢
  have hl : lv_has ls 4 [(0, .ref (ad 1)), (1, .int x1)] := hl
  refine lv_aload_n hx hb d_P_energyOfPlace_I_0 rfl (lv_at hl 0 rfl) ?_
  refine va_get (D := (dC, dI)) (ci := 1) (v := .ref (ad 4)) (C := R_P) (T := F_P) (N := 3) hx hb hts (fun w h => gm (i_P w h)) hown hK G.1 1 rfl rfl 1 (by decide) (hts _ (gm tw_47)) (fun _ h9 => h9) rfl d_P_energyOfPlace_I_1 ?_
  refine lv_iconst (v := 0) hx hb d_P_energyOfPlace_I_4 (by decide) ?_
  refine va_lald hx hb hK G.1 4 0 rfl rfl (in_of (by decide) (by decide)) d_P_energyOfPlace_I_5 ?_
  refine lv_aload_n hx hb d_P_energyOfPlace_I_6 rfl (lv_at hl 0 rfl) ?_
  refine va_get (D := (dC, dI)) (ci := 1) (v := .ref (ad 3)) (C := R_P) (T := F_P) (N := 3) hx hb hts (fun w h => gm (i_P w h)) hown hK G.1 1 rfl rfl 0 (by decide) (hts _ (gm tw_46)) (fun _ h9 => h9) rfl d_P_energyOfPlace_I_7 ?_
  refine lv_iconst (v := 0) hx hb d_P_energyOfPlace_I_10 (by decide) ?_
  refine lv_iload_n hx hb d_P_energyOfPlace_I_11 rfl (lv_at hl 1 rfl) ?_
  refine lv_iadd hx hb d_P_energyOfPlace_I_12 ?_
  refine va_lald hx hb hK G.1 3 0 rfl rfl (in_al hk_x1 (by decide)) d_P_energyOfPlace_I_13 ?_
  refine lv_aload_n hx hb d_P_energyOfPlace_I_14 rfl (lv_at hl 0 rfl) ?_
  refine va_get (D := (dC, dI)) (ci := 1) (v := .ref (ad 4)) (C := R_P) (T := F_P) (N := 3) hx hb hts (fun w h => gm (i_P w h)) hown hK G.1 1 rfl rfl 1 (by decide) (hts _ (gm tw_47)) (fun _ h9 => h9) rfl d_P_energyOfPlace_I_15 ?_
  refine lv_iconst (v := 1) hx hb d_P_energyOfPlace_I_18 (by decide) ?_
  refine va_lald hx hb hK G.1 4 0 rfl rfl (in_of (by decide) (by decide)) d_P_energyOfPlace_I_19 ?_
  refine lv_aload_n hx hb d_P_energyOfPlace_I_20 rfl (lv_at hl 0 rfl) ?_
  refine va_get (D := (dC, dI)) (ci := 1) (v := .ref (ad 3)) (C := R_P) (T := F_P) (N := 3) hx hb hts (fun w h => gm (i_P w h)) hown hK G.1 1 rfl rfl 0 (by decide) (hts _ (gm tw_46)) (fun _ h9 => h9) rfl d_P_energyOfPlace_I_21 ?_
  refine lv_bipush (v := (8 : Int32)) hx hb d_P_energyOfPlace_I_24 (by decide) ?_
  refine lv_iload_n hx hb d_P_energyOfPlace_I_26 rfl (lv_at hl 1 rfl) ?_
  refine lv_iadd hx hb d_P_energyOfPlace_I_27 ?_
  refine va_lald hx hb hK G.1 3 0 rfl rfl (in_al hk_x1 (by decide)) d_P_energyOfPlace_I_28 ?_
  refine pu_l (As := [.long (sF S (0 : Int32).toNatClampNeg), .long (sR S ((0 : Int32) + x1).toNatClampNeg), .long (sF S (1 : Int32).toNatClampNeg), .long (sR S ((8 : Int32) + x1).toNatClampNeg)]) (rest := []) ⟨hx, hb, hml, hown, hts⟩ (c_I_products_JJJJ l _ (sF S (0 : Int32).toNatClampNeg) (sR S ((0 : Int32) + x1).toNatClampNeg) (sF S (1 : Int32).toNatClampNeg) (sR S ((8 : Int32) + x1).toNatClampNeg)) pu_pre (gw_call (k := 4) hts tw_215 tw_216 tw_5 tw_217 (by decide +kernel) rfl rfl ⟨Nat.le_of_ble_eq_true rfl, Nat.le_of_ble_eq_true rfl⟩) rfl hl.1 rfl (Nat.le_of_ble_eq_true rfl) ⟨Nat.zero_le _, Nat.zero_le _⟩ d_P_energyOfPlace_I_29 ?_
  refine lv_topl (fun v1 e1 => ?_)
  refine lv_lstore_n (lv' := [(2, .long v1), (0, .ref (ad 1)), (1, .int x1)]) hx hb d_P_energyOfPlace_I_32 rfl hl (by decide) rfl (fun ls hl => ?_)
  refine lv_aload_n hx hb d_P_energyOfPlace_I_33 rfl (lv_at hl 1 rfl) ?_
  refine va_get (D := (dC, dI)) (ci := 1) (v := .ref (ad 3)) (C := R_P) (T := F_P) (N := 3) hx hb hts (fun w h => gm (i_P w h)) hown hK G.1 1 rfl rfl 0 (by decide) (hts _ (gm tw_46)) (fun _ h9 => h9) rfl d_P_energyOfPlace_I_34 ?_
  refine lv_bipush (v := (32 : Int32)) hx hb d_P_energyOfPlace_I_37 (by decide) ?_
  refine lv_iload_n hx hb d_P_energyOfPlace_I_39 rfl (lv_at hl 2 rfl) ?_
  refine lv_iadd hx hb d_P_energyOfPlace_I_40 ?_
  refine va_lald hx hb hK G.1 3 0 rfl rfl (in_al hk_x1 (by decide)) d_P_energyOfPlace_I_41 ?_
  refine lv_lload_n hx hb d_P_energyOfPlace_I_42 rfl (lv_at hl 0 rfl) ?_
  refine pu_l (As := [.long (sR S ((32 : Int32) + x1).toNatClampNeg), .long v1]) (rest := []) ⟨hx, hb, hml, hown, hts⟩ (c_I_product_JJ l _ (sR S ((32 : Int32) + x1).toNatClampNeg) v1) pu_pre (gw_call (k := 2) hts tw_174 tw_175 tw_5 tw_176 (by decide +kernel) rfl rfl ⟨Nat.le_of_ble_eq_true rfl, Nat.le_of_ble_eq_true rfl⟩) rfl hl.1 rfl (Nat.le_of_ble_eq_true rfl) ⟨Nat.zero_le _, Nat.zero_le _⟩ d_P_energyOfPlace_I_43 ?_
  exact hg_lret hx hb hr hlocks hK hAe G (by have qe1 := e1.symm; subst qe1; exact ⟨rfl, rfl⟩) d_P_energyOfPlace_I_46
