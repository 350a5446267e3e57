-- ===== MotionLabModel.cast(II)J 
abbrev y_M_cast_II : MethodName := ⟨"MotionLabModel", "cast", "(II)J"⟩
abbrev b_M_cast_II : ByteArray := prog_6_method_54_code
theorem d_M_cast_II_0 : decode b_M_cast_II 0 = .ok (.iload_n 1, 1) := by decide +kernel
theorem d_M_cast_II_1 : decode b_M_cast_II 1 = .ok (.bipush 8, 2) := by decide +kernel
theorem d_M_cast_II_3 : decode b_M_cast_II 3 = .ok (.invokestatic 190, 3) := by decide +kernel
theorem d_M_cast_II_6 : decode b_M_cast_II 6 = .ok (.ifCond .eq 11, 3) := by decide +kernel
theorem d_M_cast_II_9 : decode b_M_cast_II 9 = .ok (.iload_n 2, 1) := by decide +kernel
theorem d_M_cast_II_10 : decode b_M_cast_II 10 = .ok (.iconst 5, 1) := by decide +kernel
theorem d_M_cast_II_11 : decode b_M_cast_II 11 = .ok (.invokestatic 190, 3) := by decide +kernel
theorem d_M_cast_II_14 : decode b_M_cast_II 14 = .ok (.ifCond .ne 7, 3) := by decide +kernel
theorem d_M_cast_II_17 : decode b_M_cast_II 17 = .ok (.ldc2_w 125, 3) := by decide +kernel
theorem d_M_cast_II_20 : decode b_M_cast_II 20 = .ok (.lreturn, 1) := by decide +kernel
theorem d_M_cast_II_21 : decode b_M_cast_II 21 = .ok (.iload_n 2, 1) := by decide +kernel
theorem d_M_cast_II_22 : decode b_M_cast_II 22 = .ok (.iconst 1, 1) := by decide +kernel
theorem d_M_cast_II_23 : decode b_M_cast_II 23 = .ok (.if_icmp .ne 19, 3) := by decide +kernel
theorem d_M_cast_II_26 : decode b_M_cast_II 26 = .ok (.aload_n 0, 1) := by decide +kernel
theorem d_M_cast_II_27 : decode b_M_cast_II 27 = .ok (.getfield 187, 3) := by decide +kernel
theorem d_M_cast_II_30 : decode b_M_cast_II 30 = .ok (.iload_n 1, 1) := by decide +kernel
theorem d_M_cast_II_31 : decode b_M_cast_II 31 = .ok (.laload, 1) := by decide +kernel
theorem d_M_cast_II_32 : decode b_M_cast_II 32 = .ok (.ldc2_w 265, 3) := by decide +kernel
theorem d_M_cast_II_35 : decode b_M_cast_II 35 = .ok (.ldc2_w 270, 3) := by decide +kernel
theorem d_M_cast_II_38 : decode b_M_cast_II 38 = .ok (.invokestatic 272, 3) := by decide +kernel
theorem d_M_cast_II_41 : decode b_M_cast_II 41 = .ok (.lreturn, 1) := by decide +kernel
theorem d_M_cast_II_42 : decode b_M_cast_II 42 = .ok (.aload_n 0, 1) := by decide +kernel
theorem d_M_cast_II_43 : decode b_M_cast_II 43 = .ok (.getfield 187, 3) := by decide +kernel
theorem d_M_cast_II_46 : decode b_M_cast_II 46 = .ok (.iload_n 1, 1) := by decide +kernel
theorem d_M_cast_II_47 : decode b_M_cast_II 47 = .ok (.laload, 1) := by decide +kernel
theorem d_M_cast_II_48 : decode b_M_cast_II 48 = .ok (.ldc2_w 278, 3) := by decide +kernel
theorem d_M_cast_II_51 : decode b_M_cast_II 51 = .ok (.ldc2_w 280, 3) := by decide +kernel
theorem d_M_cast_II_54 : decode b_M_cast_II 54 = .ok (.invokestatic 272, 3) := by decide +kernel
theorem d_M_cast_II_57 : decode b_M_cast_II 57 = .ok (.l2i, 1) := by decide +kernel
theorem d_M_cast_II_58 : decode b_M_cast_II 58 = .ok (.istore_n 3, 1) := by decide +kernel
theorem d_M_cast_II_59 : decode b_M_cast_II 59 = .ok (.iload_n 2, 1) := by decide +kernel
theorem d_M_cast_II_60 : decode b_M_cast_II 60 = .ok (.ifCond .ne 8, 3) := by decide +kernel
theorem d_M_cast_II_63 : decode b_M_cast_II 63 = .ok (.iload_n 3, 1) := by decide +kernel
theorem d_M_cast_II_64 : decode b_M_cast_II 64 = .ok (.i2l, 1) := by decide +kernel
theorem d_M_cast_II_65 : decode b_M_cast_II 65 = .ok (.goto 28, 3) := by decide +kernel
theorem d_M_cast_II_68 : decode b_M_cast_II 68 = .ok (.iload_n 2, 1) := by decide +kernel
theorem d_M_cast_II_69 : decode b_M_cast_II 69 = .ok (.iconst 2, 1) := by decide +kernel
theorem d_M_cast_II_70 : decode b_M_cast_II 70 = .ok (.if_icmp .ne 9, 3) := by decide +kernel
theorem d_M_cast_II_73 : decode b_M_cast_II 73 = .ok (.iload_n 3, 1) := by decide +kernel
theorem d_M_cast_II_74 : decode b_M_cast_II 74 = .ok (.i2s, 1) := by decide +kernel
theorem d_M_cast_II_75 : decode b_M_cast_II 75 = .ok (.i2l, 1) := by decide +kernel
theorem d_M_cast_II_76 : decode b_M_cast_II 76 = .ok (.goto 17, 3) := by decide +kernel
theorem d_M_cast_II_79 : decode b_M_cast_II 79 = .ok (.iload_n 2, 1) := by decide +kernel
theorem d_M_cast_II_80 : decode b_M_cast_II 80 = .ok (.iconst 3, 1) := by decide +kernel
theorem d_M_cast_II_81 : decode b_M_cast_II 81 = .ok (.if_icmp .ne 9, 3) := by decide +kernel
theorem d_M_cast_II_84 : decode b_M_cast_II 84 = .ok (.iload_n 3, 1) := by decide +kernel
theorem d_M_cast_II_85 : decode b_M_cast_II 85 = .ok (.i2c, 1) := by decide +kernel
theorem d_M_cast_II_86 : decode b_M_cast_II 86 = .ok (.i2l, 1) := by decide +kernel
theorem d_M_cast_II_87 : decode b_M_cast_II 87 = .ok (.goto 6, 3) := by decide +kernel
theorem d_M_cast_II_90 : decode b_M_cast_II 90 = .ok (.iload_n 3, 1) := by decide +kernel
theorem d_M_cast_II_91 : decode b_M_cast_II 91 = .ok (.i2b, 1) := by decide +kernel
theorem d_M_cast_II_92 : decode b_M_cast_II 92 = .ok (.i2l, 1) := by decide +kernel
theorem d_M_cast_II_93 : decode b_M_cast_II 93 = .ok (.lreturn, 1) := by decide +kernel
def f_M_cast_II (S : MS) (x1 : Int32) (x2 : Int32) : Int64 :=
  if (f_M_in_II x1 (8 : Int32)) = 0 then
    (4611686018427387904 : Int64)
  else
    if (f_M_in_II x2 (5 : Int32)) = 0 then
      (4611686018427387904 : Int64)
    else
      if x2 = (1 : Int32) then
        f_M_cutTo_JJJ (m_store S x1.toNatClampNeg) (-9223372036854775808 : Int64) (9223372036854775807 : Int64)
      else
        let v4 : Int32 := (f_M_cutTo_JJJ (m_store S x1.toNatClampNeg) (-2147483648 : Int64) (2147483647 : Int64)).toInt32
        if x2 = 0 then
          v4.toInt64
        else
          if x2 = (2 : Int32) then
            (v4.toInt16.toInt32).toInt64
          else
            if x2 = (3 : Int32) then
              ((v4.toUInt32 % 65536).toInt32).toInt64
            else
              (v4.toInt8.toInt32).toInt64
set_option maxHeartbeats 4000000 in
set_option maxRecDepth 100000 in
theorem c_M_cast_II (l : Launch) (dC : Nat → ClassId) (dI : Nat → Nat → Nat) (ad : Nat → Nat) (cJ cI : ClassId) (t0 t1 t2 : Nat) (S : MS) (x1 : Int32) (x2 : Int32) (sz : Nat) : hMl l y_M_cast_II (gw y_M_cast_II b_M_cast_II 4 (some .long)) { frames := 4, cells := 0, slots := 0, locals := 102 } [.ref (ad 0), .int x1, .int x2] (dC, dI) classes (tysJI cJ cI) (hE_M t0 t1 t2 (mW ad cJ cI S) sz) (mW ad cJ cI S) sz (f_M_cast_II S x1 x2) (mW ad cJ cI S) := by
  refine Met.ofW (cc := b_M_cast_II) (maxL := 4) (ret := (some .long)) (by decide) rfl ?_
  intro p e s m args below meth c s₁ B hml hv
  obtain ⟨rfl, hsz, hP, hK, hD0, hRT⟩ := hv
  have hx := B.exec
  have hb := B.bytes
  have hr := B.returns
  have hts := atoms_spec (ws := (gw y_M_cast_II b_M_cast_II 4 (some .long))) B.pre
  have hown : s.vm.findClass "MotionLabModel" = some m.cls := findClass_of_methodNamed B.named
  have hlocks := B.notSynchronized
  subst hsz
  have hD := hD0.self (sz := s.heap.size)
  have hRT : RTA t0 t1 t2 (va_A (mW ad cJ cI S) s.heap.size) s s.heap := hRT
  generalize hAe : va_A (mW ad cJ cI S) s.heap.size = A at hD hRT
  have hA : ∀ q : Nat, s.heap.size ≤ q → A q := fun q h => by rw [← hAe]; exact Or.inr h
  have G : hG (dC, dI) classes A s.heap (mW ad cJ cI S) s.heap [] := ⟨hP, hD, va_S.rf⟩
  have hl := lv_entry ([.ref (ad 0), .int x1, .int x2]) (n := 4) (Nat.le_of_ble_eq_true rfl)
  rw [lg_entry_eq]
  generalize (lg_sl ([.ref (ad 0), .int x1, .int x2]) ++ List.replicate (4 - (lg_sl ([.ref (ad 0), .int x1, .int x2])).length) Slot.unset).toArray = ls at hl ⊢
  have hl : lv_has ls 4 [(0, .ref (ad 0)), (1, .int x1), (2, .int x2)] := hl
  refine lv_iload_n hx hb d_M_cast_II_0 rfl (lv_at hl 1 rfl) ?_
  refine lv_bipush (v := (8 : Int32)) hx hb d_M_cast_II_1 (by decide) ?_
  refine pu_i (As := [.int x1, .int (8 : Int32)]) (rest := []) ⟨hx, hb, hml, hown, hts⟩ (c_M_in_II l _ x1 (8 : Int32)) pu_pre (gw_call (k := 2) hts tw_489 tw_490 tw_4 tw_491 (by decide +kernel) rfl rfl ⟨Nat.le_of_ble_eq_true rfl, Nat.le_of_ble_eq_true rfl⟩) rfl hl.1 rfl (Nat.le_of_ble_eq_true rfl) ⟨Nat.zero_le _, Nat.zero_le _⟩ d_M_cast_II_3 ?_
  refine lv_if_eq (tgt := 17) hx hb d_M_cast_II_6 (by decide) (fun c1 => ?_) (fun c1 => ?_)
  · refine lv_ldc2 (v := (4611686018427387904 : Int64)) hx hb hown (hts _ (gm tw_630)) d_M_cast_II_17 ?_
    exact hg_lret hx hb hr hlocks hK hAe G (by have e9 : f_M_cast_II S x1 x2 = _ := (if_pos c1); exact ⟨Eq.symm e9, rfl⟩) d_M_cast_II_20
  · refine lv_iload_n hx hb d_M_cast_II_9 rfl (lv_at hl 2 rfl) ?_
    refine lv_iconst (v := 5) hx hb d_M_cast_II_10 (by decide) ?_
    refine pu_i (As := [.int x2, .int (5 : Int32)]) (rest := []) ⟨hx, hb, hml, hown, hts⟩ (c_M_in_II l _ x2 (5 : Int32)) pu_pre (gw_call (k := 2) hts tw_489 tw_490 tw_4 tw_491 (by decide +kernel) rfl rfl ⟨Nat.le_of_ble_eq_true rfl, Nat.le_of_ble_eq_true rfl⟩) rfl hl.1 rfl (Nat.le_of_ble_eq_true rfl) ⟨Nat.zero_le _, Nat.zero_le _⟩ d_M_cast_II_11 ?_
    refine lv_if_ne (tgt := 21) hx hb d_M_cast_II_14 (by decide) (fun c2 => ?_) (fun c2 => ?_)
    · refine lv_iload_n hx hb d_M_cast_II_21 rfl (lv_at hl 2 rfl) ?_
      refine lv_iconst (v := 1) hx hb d_M_cast_II_22 (by decide) ?_
      refine lv_icmp_ne (tgt := 42) hx hb d_M_cast_II_23 (by decide) (fun c3 => ?_) (fun c3 => ?_)
      · refine lv_aload_n hx hb d_M_cast_II_42 rfl (lv_at hl 0 rfl) ?_
        refine va_get (D := (dC, dI)) (ci := 3) (v := .ref (ad 14)) (C := R_M) (T := F_M) (N := 21) hx hb hts (fun w h => gm (i_M w h)) hown hK G.1 0 rfl rfl 20 (by decide) (hts _ (gm tw_441)) (fun _ h9 => h9) rfl d_M_cast_II_43 ?_
        refine lv_iload_n hx hb d_M_cast_II_46 rfl (lv_at hl 1 rfl) ?_
        refine va_lald hx hb hK G.1 14 0 rfl rfl (in_in c1 (by decide) (by decide)) d_M_cast_II_47 ?_
        refine lv_ldc2 (v := (-2147483648 : Int64)) hx hb hown (hts _ (gm tw_685)) d_M_cast_II_48 ?_
        refine lv_ldc2 (v := (2147483647 : Int64)) hx hb hown (hts _ (gm tw_686)) d_M_cast_II_51 ?_
        refine pu_l (As := [.long (m_store S x1.toNatClampNeg), .long (-2147483648 : Int64), .long (2147483647 : Int64)]) (rest := []) ⟨hx, hb, hml, hown, hts⟩ (c_M_cutTo_JJJ l _ t0 t1 t2 (m_store S x1.toNatClampNeg) (-2147483648 : Int64) (2147483647 : Int64)) (pr_pre (hx_R hRT G)) (gw_call (k := 3) hts tw_682 tw_683 tw_4 tw_684 (by decide +kernel) rfl rfl ⟨Nat.le_of_ble_eq_true rfl, Nat.le_of_ble_eq_true rfl⟩) rfl hl.1 rfl (Nat.le_of_ble_eq_true rfl) ⟨Nat.zero_le _, Nat.zero_le _⟩ d_M_cast_II_54 ?_
        refine lv_l2i hx hb d_M_cast_II_57 rfl ?_
        refine lv_topi (fun v4 e4 => ?_)
        refine lv_istore_n (lv' := [(3, .int v4), (0, .ref (ad 0)), (1, .int x1), (2, .int x2)]) hx hb d_M_cast_II_58 rfl hl (by decide) rfl (fun ls hl => ?_)
        refine lv_iload_n hx hb d_M_cast_II_59 rfl (lv_at hl 3 rfl) ?_
        refine lv_if_ne (tgt := 68) hx hb d_M_cast_II_60 (by decide) (fun c5 => ?_) (fun c5 => ?_)
        · refine lv_iload_n hx hb d_M_cast_II_68 rfl (lv_at hl 3 rfl) ?_
          refine lv_iconst (v := 2) hx hb d_M_cast_II_69 (by decide) ?_
          refine lv_icmp_ne (tgt := 79) hx hb d_M_cast_II_70 (by decide) (fun c6 => ?_) (fun c6 => ?_)
          · refine lv_iload_n hx hb d_M_cast_II_79 rfl (lv_at hl 3 rfl) ?_
            refine lv_iconst (v := 3) hx hb d_M_cast_II_80 (by decide) ?_
            refine lv_icmp_ne (tgt := 90) hx hb d_M_cast_II_81 (by decide) (fun c7 => ?_) (fun c7 => ?_)
            · refine lv_iload_n hx hb d_M_cast_II_90 rfl (lv_at hl 0 rfl) ?_
              refine lv_i2b hx hb d_M_cast_II_91 rfl ?_
              refine lv_i2l hx hb d_M_cast_II_92 rfl ?_
              exact hg_lret hx hb hr hlocks hK hAe G (by have qe4 := e4.symm; subst qe4; have e9 : f_M_cast_II S x1 x2 = _ := (Eq.trans (if_neg c1) (Eq.trans (if_neg c2) (Eq.trans (if_neg c3) (Eq.trans (if_neg c5) (Eq.trans (if_neg c6) (if_neg c7)))))); exact ⟨Eq.symm e9, rfl⟩) d_M_cast_II_93
            · refine lv_iload_n hx hb d_M_cast_II_84 rfl (lv_at hl 0 rfl) ?_
              refine lv_i2c hx hb d_M_cast_II_85 rfl ?_
              refine lv_i2l hx hb d_M_cast_II_86 rfl ?_
              refine lv_goto (tgt := 93) hx hb d_M_cast_II_87 (by decide) ?_
              exact hg_lret hx hb hr hlocks hK hAe G (by have qe4 := e4.symm; subst qe4; have e9 : f_M_cast_II S x1 x2 = _ := (Eq.trans (if_neg c1) (Eq.trans (if_neg c2) (Eq.trans (if_neg c3) (Eq.trans (if_neg c5) (Eq.trans (if_neg c6) (if_pos c7)))))); exact ⟨Eq.symm e9, rfl⟩) d_M_cast_II_93
          · refine lv_iload_n hx hb d_M_cast_II_73 rfl (lv_at hl 0 rfl) ?_
            refine lv_i2s hx hb d_M_cast_II_74 rfl ?_
            refine lv_i2l hx hb d_M_cast_II_75 rfl ?_
            refine lv_goto (tgt := 93) hx hb d_M_cast_II_76 (by decide) ?_
            exact hg_lret hx hb hr hlocks hK hAe G (by have qe4 := e4.symm; subst qe4; have e9 : f_M_cast_II S x1 x2 = _ := (Eq.trans (if_neg c1) (Eq.trans (if_neg c2) (Eq.trans (if_neg c3) (Eq.trans (if_neg c5) (if_pos c6))))); exact ⟨Eq.symm e9, rfl⟩) d_M_cast_II_93
        · refine lv_iload_n hx hb d_M_cast_II_63 rfl (lv_at hl 0 rfl) ?_
          refine lv_i2l hx hb d_M_cast_II_64 rfl ?_
          refine lv_goto (tgt := 93) hx hb d_M_cast_II_65 (by decide) ?_
          exact hg_lret hx hb hr hlocks hK hAe G (by have qe4 := e4.symm; subst qe4; have e9 : f_M_cast_II S x1 x2 = _ := (Eq.trans (if_neg c1) (Eq.trans (if_neg c2) (Eq.trans (if_neg c3) (if_pos c5)))); exact ⟨Eq.symm e9, rfl⟩) d_M_cast_II_93
      · refine lv_aload_n hx hb d_M_cast_II_26 rfl (lv_at hl 0 rfl) ?_
        refine va_get (D := (dC, dI)) (ci := 3) (v := .ref (ad 14)) (C := R_M) (T := F_M) (N := 21) hx hb hts (fun w h => gm (i_M w h)) hown hK G.1 0 rfl rfl 20 (by decide) (hts _ (gm tw_441)) (fun _ h9 => h9) rfl d_M_cast_II_27 ?_
        refine lv_iload_n hx hb d_M_cast_II_30 rfl (lv_at hl 1 rfl) ?_
        refine va_lald hx hb hK G.1 14 0 rfl rfl (in_in c1 (by decide) (by decide)) d_M_cast_II_31 ?_
        refine lv_ldc2 (v := (-9223372036854775808 : Int64)) hx hb hown (hts _ (gm tw_675)) d_M_cast_II_32 ?_
        refine lv_ldc2 (v := (9223372036854775807 : Int64)) hx hb hown (hts _ (gm tw_681)) d_M_cast_II_35 ?_
        refine pu_l (As := [.long (m_store S x1.toNatClampNeg), .long (-9223372036854775808 : Int64), .long (9223372036854775807 : Int64)]) (rest := []) ⟨hx, hb, hml, hown, hts⟩ (c_M_cutTo_JJJ l _ t0 t1 t2 (m_store S x1.toNatClampNeg) (-9223372036854775808 : Int64) (9223372036854775807 : Int64)) (pr_pre (hx_R hRT G)) (gw_call (k := 3) hts tw_682 tw_683 tw_4 tw_684 (by decide +kernel) rfl rfl ⟨Nat.le_of_ble_eq_true rfl, Nat.le_of_ble_eq_true rfl⟩) rfl hl.1 rfl (Nat.le_of_ble_eq_true rfl) ⟨Nat.zero_le _, Nat.zero_le _⟩ d_M_cast_II_38 ?_
        exact hg_lret hx hb hr hlocks hK hAe G (by have e9 : f_M_cast_II S x1 x2 = _ := (Eq.trans (if_neg c1) (Eq.trans (if_neg c2) (if_pos c3))); exact ⟨Eq.symm e9, rfl⟩) d_M_cast_II_41
    · refine lv_ldc2 (v := (4611686018427387904 : Int64)) hx hb hown (hts _ (gm tw_630)) d_M_cast_II_17 ?_
      exact hg_lret hx hb hr hlocks hK hAe G (by have e9 : f_M_cast_II S x1 x2 = _ := (Eq.trans (if_neg c1) (if_pos c2)); exact ⟨Eq.symm e9, rfl⟩) d_M_cast_II_20
-- ===== MotionLabModel.compare(II)I 
abbrev y_M_compare_II : MethodName := ⟨"MotionLabModel", "compare", "(II)I"⟩
abbrev b_M_compare_II : ByteArray := prog_6_method_55_code
theorem d_M_compare_II_0 : decode b_M_compare_II 0 = .ok (.iload_n 1, 1) := by decide +kernel
theorem d_M_compare_II_1 : decode b_M_compare_II 1 = .ok (.bipush 8, 2) := by decide +kernel
theorem d_M_compare_II_3 : decode b_M_compare_II 3 = .ok (.invokestatic 190, 3) := by decide +kernel
theorem d_M_compare_II_6 : decode b_M_compare_II 6 = .ok (.ifCond .eq 12, 3) := by decide +kernel
theorem d_M_compare_II_9 : decode b_M_compare_II 9 = .ok (.iload_n 2, 1) := by decide +kernel
theorem d_M_compare_II_10 : decode b_M_compare_II 10 = .ok (.bipush 8, 2) := by decide +kernel
theorem d_M_compare_II_12 : decode b_M_compare_II 12 = .ok (.invokestatic 190, 3) := by decide +kernel
theorem d_M_compare_II_15 : decode b_M_compare_II 15 = .ok (.ifCond .ne 5, 3) := by decide +kernel
theorem d_M_compare_II_18 : decode b_M_compare_II 18 = .ok (.iconst (-1), 1) := by decide +kernel
theorem d_M_compare_II_19 : decode b_M_compare_II 19 = .ok (.ireturn, 1) := by decide +kernel
theorem d_M_compare_II_20 : decode b_M_compare_II 20 = .ok (.aload_n 0, 1) := by decide +kernel
theorem d_M_compare_II_21 : decode b_M_compare_II 21 = .ok (.getfield 187, 3) := by decide +kernel
theorem d_M_compare_II_24 : decode b_M_compare_II 24 = .ok (.iload_n 1, 1) := by decide +kernel
theorem d_M_compare_II_25 : decode b_M_compare_II 25 = .ok (.laload, 1) := by decide +kernel
theorem d_M_compare_II_26 : decode b_M_compare_II 26 = .ok (.aload_n 0, 1) := by decide +kernel
theorem d_M_compare_II_27 : decode b_M_compare_II 27 = .ok (.getfield 187, 3) := by decide +kernel
theorem d_M_compare_II_30 : decode b_M_compare_II 30 = .ok (.iload_n 2, 1) := by decide +kernel
theorem d_M_compare_II_31 : decode b_M_compare_II 31 = .ok (.laload, 1) := by decide +kernel
theorem d_M_compare_II_32 : decode b_M_compare_II 32 = .ok (.invokestatic 116, 3) := by decide +kernel
theorem d_M_compare_II_35 : decode b_M_compare_II 35 = .ok (.tableswitch 34 (-1) 1 #[25, 28, 31], 25) := by decide +kernel
theorem d_M_compare_II_60 : decode b_M_compare_II 60 = .ok (.bipush 11, 2) := by decide +kernel
theorem d_M_compare_II_62 : decode b_M_compare_II 62 = .ok (.ireturn, 1) := by decide +kernel
theorem d_M_compare_II_63 : decode b_M_compare_II 63 = .ok (.bipush 22, 2) := by decide +kernel
theorem d_M_compare_II_65 : decode b_M_compare_II 65 = .ok (.ireturn, 1) := by decide +kernel
theorem d_M_compare_II_66 : decode b_M_compare_II 66 = .ok (.bipush 56, 2) := by decide +kernel
theorem d_M_compare_II_68 : decode b_M_compare_II 68 = .ok (.ireturn, 1) := by decide +kernel
theorem d_M_compare_II_69 : decode b_M_compare_II 69 = .ok (.bipush 8, 2) := by decide +kernel
theorem d_M_compare_II_71 : decode b_M_compare_II 71 = .ok (.ireturn, 1) := by decide +kernel
def f_M_compare_II (S : MS) (x1 : Int32) (x2 : Int32) : Int32 :=
  if (f_M_in_II x1 (8 : Int32)) = 0 then
    (-1 : Int32)
  else
    if (f_M_in_II x2 (8 : Int32)) = 0 then
      (-1 : Int32)
    else
      if (f_M_order_JJ (m_store S x1.toNatClampNeg) (m_store S x2.toNatClampNeg)) = -1 then
        (11 : Int32)
      else
        if (f_M_order_JJ (m_store S x1.toNatClampNeg) (m_store S x2.toNatClampNeg)) = 0 then
          (22 : Int32)
        else
          if (f_M_order_JJ (m_store S x1.toNatClampNeg) (m_store S x2.toNatClampNeg)) = 1 then
            (56 : Int32)
          else
            (8 : Int32)
set_option maxHeartbeats 4000000 in
set_option maxRecDepth 100000 in
theorem c_M_compare_II (l : Launch) (dC : Nat → ClassId) (dI : Nat → Nat → Nat) (ad : Nat → Nat) (cJ cI : ClassId) (t0 t1 t2 : Nat) (S : MS) (x1 : Int32) (x2 : Int32) (sz : Nat) : hMi l y_M_compare_II (gw y_M_compare_II b_M_compare_II 3 (some .int)) { frames := 4, cells := 0, slots := 0, locals := 91 } [.ref (ad 0), .int x1, .int x2] (dC, dI) classes (tysJI cJ cI) (hE_M t0 t1 t2 (mW ad cJ cI S) sz) (mW ad cJ cI S) sz (f_M_compare_II S x1 x2) (mW ad cJ cI S) := by
  refine Met.ofW (cc := b_M_compare_II) (maxL := 3) (ret := (some .int)) (by decide) rfl ?_
  intro p e s m args below meth c s₁ B hml hv
  obtain ⟨rfl, hsz, hP, hK, hD0, hRT⟩ := hv
  have hx := B.exec
  have hb := B.bytes
  have hr := B.returns
  have hts := atoms_spec (ws := (gw y_M_compare_II b_M_compare_II 3 (some .int))) B.pre
  have hown : s.vm.findClass "MotionLabModel" = some m.cls := findClass_of_methodNamed B.named
  have hlocks := B.notSynchronized
  subst hsz
  have hD := hD0.self (sz := s.heap.size)
  have hRT : RTA t0 t1 t2 (va_A (mW ad cJ cI S) s.heap.size) s s.heap := hRT
  generalize hAe : va_A (mW ad cJ cI S) s.heap.size = A at hD hRT
  have hA : ∀ q : Nat, s.heap.size ≤ q → A q := fun q h => by rw [← hAe]; exact Or.inr h
  have G : hG (dC, dI) classes A s.heap (mW ad cJ cI S) s.heap [] := ⟨hP, hD, va_S.rf⟩
  have hl := lv_entry ([.ref (ad 0), .int x1, .int x2]) (n := 3) (Nat.le_of_ble_eq_true rfl)
  rw [lg_entry_eq]
  generalize (lg_sl ([.ref (ad 0), .int x1, .int x2]) ++ List.replicate (3 - (lg_sl ([.ref (ad 0), .int x1, .int x2])).length) Slot.unset).toArray = ls at hl ⊢
  have hl : lv_has ls 3 [(0, .ref (ad 0)), (1, .int x1), (2, .int x2)] := hl
  refine lv_iload_n hx hb d_M_compare_II_0 rfl (lv_at hl 1 rfl) ?_
  refine lv_bipush (v := (8 : Int32)) hx hb d_M_compare_II_1 (by decide) ?_
  refine pu_i (As := [.int x1, .int (8 : Int32)]) (rest := []) ⟨hx, hb, hml, hown, hts⟩ (c_M_in_II l _ x1 (8 : Int32)) pu_pre (gw_call (k := 2) hts tw_489 tw_490 tw_4 tw_491 (by decide +kernel) rfl rfl ⟨Nat.le_of_ble_eq_true rfl, Nat.le_of_ble_eq_true rfl⟩) rfl hl.1 rfl (Nat.le_of_ble_eq_true rfl) ⟨Nat.zero_le _, Nat.zero_le _⟩ d_M_compare_II_3 ?_
  refine lv_if_eq (tgt := 18) hx hb d_M_compare_II_6 (by decide) (fun c1 => ?_) (fun c1 => ?_)
  · refine lv_iconst (v := (-1)) hx hb d_M_compare_II_18 (by decide) ?_
    exact hg_iret hx hb hr hlocks hK hAe G (by have e9 : f_M_compare_II S x1 x2 = _ := (if_pos c1); exact ⟨Eq.symm e9, rfl⟩) d_M_compare_II_19
  · refine lv_iload_n hx hb d_M_compare_II_9 rfl (lv_at hl 2 rfl) ?_
    refine lv_bipush (v := (8 : Int32)) hx hb d_M_compare_II_10 (by decide) ?_
    refine pu_i (As := [.int x2, .int (8 : Int32)]) (rest := []) ⟨hx, hb, hml, hown, hts⟩ (c_M_in_II l _ x2 (8 : Int32)) pu_pre (gw_call (k := 2) hts tw_489 tw_490 tw_4 tw_491 (by decide +kernel) rfl rfl ⟨Nat.le_of_ble_eq_true rfl, Nat.le_of_ble_eq_true rfl⟩) rfl hl.1 rfl (Nat.le_of_ble_eq_true rfl) ⟨Nat.zero_le _, Nat.zero_le _⟩ d_M_compare_II_12 ?_
    refine lv_if_ne (tgt := 20) hx hb d_M_compare_II_15 (by decide) (fun c2 => ?_) (fun c2 => ?_)
    · refine lv_aload_n hx hb d_M_compare_II_20 rfl (lv_at hl 0 rfl) ?_
      refine va_get (D := (dC, dI)) (ci := 3) (v := .ref (ad 14)) (C := R_M) (T := F_M) (N := 21) hx hb hts (fun w h => gm (i_M w h)) hown hK G.1 0 rfl rfl 20 (by decide) (hts _ (gm tw_441)) (fun _ h9 => h9) rfl d_M_compare_II_21 ?_
      refine lv_iload_n hx hb d_M_compare_II_24 rfl (lv_at hl 1 rfl) ?_
      refine va_lald hx hb hK G.1 14 0 rfl rfl (in_in c1 (by decide) (by decide)) d_M_compare_II_25 ?_
      refine lv_aload_n hx hb d_M_compare_II_26 rfl (lv_at hl 0 rfl) ?_
      refine va_get (D := (dC, dI)) (ci := 3) (v := .ref (ad 14)) (C := R_M) (T := F_M) (N := 21) hx hb hts (fun w h => gm (i_M w h)) hown hK G.1 0 rfl rfl 20 (by decide) (hts _ (gm tw_441)) (fun _ h9 => h9) rfl d_M_compare_II_27 ?_
      refine lv_iload_n hx hb d_M_compare_II_30 rfl (lv_at hl 2 rfl) ?_
      refine va_lald hx hb hK G.1 14 0 rfl rfl (in_in c2 (by decide) (by decide)) d_M_compare_II_31 ?_
      refine pu_i (As := [.long (m_store S x1.toNatClampNeg), .long (m_store S x2.toNatClampNeg)]) (rest := []) ⟨hx, hb, hml, hown, hts⟩ (c_M_order_JJ l _ (m_store S x1.toNatClampNeg) (m_store S x2.toNatClampNeg)) pu_pre (gw_call (k := 2) hts tw_617 tw_618 tw_4 tw_619 (by decide +kernel) rfl rfl ⟨Nat.le_of_ble_eq_true rfl, Nat.le_of_ble_eq_true rfl⟩) rfl hl.1 rfl (Nat.le_of_ble_eq_true rfl) ⟨Nat.zero_le _, Nat.zero_le _⟩ d_M_compare_II_32 ?_
      by_cases c3 : (f_M_order_JJ (m_store S x1.toNatClampNeg) (m_store S x2.toNatClampNeg)) = -1
      · refine lv_tableIn (off := 25) (tgt := 60) hx hb d_M_compare_II_35 (by rw [c3]; decide) (by rw [c3]; decide) (by rw [c3]; rfl) (by decide) ?_
        refine lv_bipush (v := (11 : Int32)) hx hb d_M_compare_II_60 (by decide) ?_
        exact hg_iret hx hb hr hlocks hK hAe G (by have e9 : f_M_compare_II S x1 x2 = _ := (Eq.trans (if_neg c1) (Eq.trans (if_neg c2) (if_pos c3))); exact ⟨Eq.symm e9, rfl⟩) d_M_compare_II_62
      · skip
        by_cases c4 : (f_M_order_JJ (m_store S x1.toNatClampNeg) (m_store S x2.toNatClampNeg)) = 0
        · refine lv_tableIn (off := 28) (tgt := 63) hx hb d_M_compare_II_35 (by rw [c4]; decide) (by rw [c4]; decide) (by rw [c4]; rfl) (by decide) ?_
          refine lv_bipush (v := (22 : Int32)) hx hb d_M_compare_II_63 (by decide) ?_
          exact hg_iret hx hb hr hlocks hK hAe G (by have e9 : f_M_compare_II S x1 x2 = _ := (Eq.trans (if_neg c1) (Eq.trans (if_neg c2) (Eq.trans (if_neg c3) (if_pos c4)))); exact ⟨Eq.symm e9, rfl⟩) d_M_compare_II_65
        · skip
          by_cases c5 : (f_M_order_JJ (m_store S x1.toNatClampNeg) (m_store S x2.toNatClampNeg)) = 1
          · refine lv_tableIn (off := 31) (tgt := 66) hx hb d_M_compare_II_35 (by rw [c5]; decide) (by rw [c5]; decide) (by rw [c5]; rfl) (by decide) ?_
            refine lv_bipush (v := (56 : Int32)) hx hb d_M_compare_II_66 (by decide) ?_
            exact hg_iret hx hb hr hlocks hK hAe G (by have e9 : f_M_compare_II S x1 x2 = _ := (Eq.trans (if_neg c1) (Eq.trans (if_neg c2) (Eq.trans (if_neg c3) (Eq.trans (if_neg c4) (if_pos c5))))); exact ⟨Eq.symm e9, rfl⟩) d_M_compare_II_68
          · skip
            refine lv_tableOut (tgt := 69) hx hb d_M_compare_II_35 (sw_out (fun j h1 h2 e => by rcases (show j = -1 ∨ j = 0 ∨ j = 1 by omega) with rfl | rfl | rfl <;> first | exact c3 (Int32.toInt_inj.mp (e.trans (by decide))) | exact c4 (Int32.toInt_inj.mp (e.trans (by decide))) | exact c5 (Int32.toInt_inj.mp (e.trans (by decide))))) (by decide) ?_
            refine lv_bipush (v := (8 : Int32)) hx hb d_M_compare_II_69 (by decide) ?_
            exact hg_iret hx hb hr hlocks hK hAe G (by have e9 : f_M_compare_II S x1 x2 = _ := (Eq.trans (if_neg c1) (Eq.trans (if_neg c2) (Eq.trans (if_neg c3) (Eq.trans (if_neg c4) (if_neg c5))))); exact ⟨Eq.symm e9, rfl⟩) d_M_compare_II_71
    · refine lv_iconst (v := (-1)) hx hb d_M_compare_II_18 (by decide) ?_
      exact hg_iret hx hb hr hlocks hK hAe G (by have e9 : f_M_compare_II S x1 x2 = _ := (Eq.trans (if_neg c1) (if_pos c2)); exact ⟨Eq.symm e9, rfl⟩) d_M_compare_II_19
