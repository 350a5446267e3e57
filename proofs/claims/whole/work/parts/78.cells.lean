-- ===== MotionLabModel.whole(IIJ)J 
abbrev y_M_whole_IIJ : MethodName := ⟨"MotionLabModel", "whole", "(IIJ)J"⟩
abbrev b_M_whole_IIJ : ByteArray := prog_6_method_52_code
theorem d_M_whole_IIJ_0 : decode b_M_whole_IIJ 0 = .ok (.iload_n 1, 1) := by decide +kernel
theorem d_M_whole_IIJ_1 : decode b_M_whole_IIJ 1 = .ok (.bipush 8, 2) := by decide +kernel
theorem d_M_whole_IIJ_3 : decode b_M_whole_IIJ 3 = .ok (.invokestatic 190, 3) := by decide +kernel
theorem d_M_whole_IIJ_6 : decode b_M_whole_IIJ 6 = .ok (.ifCond .eq 11, 3) := by decide +kernel
theorem d_M_whole_IIJ_9 : decode b_M_whole_IIJ 9 = .ok (.iload_n 2, 1) := by decide +kernel
theorem d_M_whole_IIJ_10 : decode b_M_whole_IIJ 10 = .ok (.iconst 2, 1) := by decide +kernel
theorem d_M_whole_IIJ_11 : decode b_M_whole_IIJ 11 = .ok (.invokestatic 190, 3) := by decide +kernel
theorem d_M_whole_IIJ_14 : decode b_M_whole_IIJ 14 = .ok (.ifCond .ne 5, 3) := by decide +kernel
theorem d_M_whole_IIJ_17 : decode b_M_whole_IIJ 17 = .ok (.lconst 1, 1) := by decide +kernel
theorem d_M_whole_IIJ_18 : decode b_M_whole_IIJ 18 = .ok (.lreturn, 1) := by decide +kernel
theorem d_M_whole_IIJ_19 : decode b_M_whole_IIJ 19 = .ok (.lload_n 3, 1) := by decide +kernel
theorem d_M_whole_IIJ_20 : decode b_M_whole_IIJ 20 = .ok (.ldc2_w 265, 3) := by decide +kernel
theorem d_M_whole_IIJ_23 : decode b_M_whole_IIJ 23 = .ok (.lcmp, 1) := by decide +kernel
theorem d_M_whole_IIJ_24 : decode b_M_whole_IIJ 24 = .ok (.ifCond .ne 7, 3) := by decide +kernel
theorem d_M_whole_IIJ_27 : decode b_M_whole_IIJ 27 = .ok (.iconst 1, 1) := by decide +kernel
theorem d_M_whole_IIJ_28 : decode b_M_whole_IIJ 28 = .ok (.goto 4, 3) := by decide +kernel
theorem d_M_whole_IIJ_31 : decode b_M_whole_IIJ 31 = .ok (.iconst 0, 1) := by decide +kernel
theorem d_M_whole_IIJ_32 : decode b_M_whole_IIJ 32 = .ok (.istore 5, 2) := by decide +kernel
theorem d_M_whole_IIJ_34 : decode b_M_whole_IIJ 34 = .ok (.iload 5, 2) := by decide +kernel
theorem d_M_whole_IIJ_36 : decode b_M_whole_IIJ 36 = .ok (.ifCond .eq 15, 3) := by decide +kernel
theorem d_M_whole_IIJ_39 : decode b_M_whole_IIJ 39 = .ok (.iconst 1, 1) := by decide +kernel
theorem d_M_whole_IIJ_40 : decode b_M_whole_IIJ 40 = .ok (.ldc2_w 125, 3) := by decide +kernel
theorem d_M_whole_IIJ_43 : decode b_M_whole_IIJ 43 = .ok (.iconst 1, 1) := by decide +kernel
theorem d_M_whole_IIJ_44 : decode b_M_whole_IIJ 44 = .ok (.iload_n 2, 1) := by decide +kernel
theorem d_M_whole_IIJ_45 : decode b_M_whole_IIJ 45 = .ok (.invokestatic 89, 3) := by decide +kernel
theorem d_M_whole_IIJ_48 : decode b_M_whole_IIJ 48 = .ok (.goto 23, 3) := by decide +kernel
theorem d_M_whole_IIJ_51 : decode b_M_whole_IIJ 51 = .ok (.lload_n 3, 1) := by decide +kernel
theorem d_M_whole_IIJ_52 : decode b_M_whole_IIJ 52 = .ok (.lconst 0, 1) := by decide +kernel
theorem d_M_whole_IIJ_53 : decode b_M_whole_IIJ 53 = .ok (.lcmp, 1) := by decide +kernel
theorem d_M_whole_IIJ_54 : decode b_M_whole_IIJ 54 = .ok (.ifCond .ge 7, 3) := by decide +kernel
theorem d_M_whole_IIJ_57 : decode b_M_whole_IIJ 57 = .ok (.iconst 1, 1) := by decide +kernel
theorem d_M_whole_IIJ_58 : decode b_M_whole_IIJ 58 = .ok (.goto 4, 3) := by decide +kernel
theorem d_M_whole_IIJ_61 : decode b_M_whole_IIJ 61 = .ok (.iconst 0, 1) := by decide +kernel
theorem d_M_whole_IIJ_62 : decode b_M_whole_IIJ 62 = .ok (.lload_n 3, 1) := by decide +kernel
theorem d_M_whole_IIJ_63 : decode b_M_whole_IIJ 63 = .ok (.invokestatic 267, 3) := by decide +kernel
theorem d_M_whole_IIJ_66 : decode b_M_whole_IIJ 66 = .ok (.iconst 0, 1) := by decide +kernel
theorem d_M_whole_IIJ_67 : decode b_M_whole_IIJ 67 = .ok (.iload_n 2, 1) := by decide +kernel
theorem d_M_whole_IIJ_68 : decode b_M_whole_IIJ 68 = .ok (.invokestatic 89, 3) := by decide +kernel
theorem d_M_whole_IIJ_71 : decode b_M_whole_IIJ 71 = .ok (.lstore 6, 2) := by decide +kernel
theorem d_M_whole_IIJ_73 : decode b_M_whole_IIJ 73 = .ok (.aload_n 0, 1) := by decide +kernel
theorem d_M_whole_IIJ_74 : decode b_M_whole_IIJ 74 = .ok (.getfield 187, 3) := by decide +kernel
theorem d_M_whole_IIJ_77 : decode b_M_whole_IIJ 77 = .ok (.iload_n 1, 1) := by decide +kernel
theorem d_M_whole_IIJ_78 : decode b_M_whole_IIJ 78 = .ok (.iload_n 2, 1) := by decide +kernel
theorem d_M_whole_IIJ_79 : decode b_M_whole_IIJ 79 = .ok (.ifCond .ne 8, 3) := by decide +kernel
theorem d_M_whole_IIJ_82 : decode b_M_whole_IIJ 82 = .ok (.lload 6, 2) := by decide +kernel
theorem d_M_whole_IIJ_84 : decode b_M_whole_IIJ 84 = .ok (.goto 8, 3) := by decide +kernel
theorem d_M_whole_IIJ_87 : decode b_M_whole_IIJ 87 = .ok (.lload 6, 2) := by decide +kernel
theorem d_M_whole_IIJ_89 : decode b_M_whole_IIJ 89 = .ok (.invokestatic 229, 3) := by decide +kernel
theorem d_M_whole_IIJ_92 : decode b_M_whole_IIJ 92 = .ok (.lastore, 1) := by decide +kernel
theorem d_M_whole_IIJ_93 : decode b_M_whole_IIJ 93 = .ok (.aload_n 0, 1) := by decide +kernel
theorem d_M_whole_IIJ_94 : decode b_M_whole_IIJ 94 = .ok (.getfield 187, 3) := by decide +kernel
theorem d_M_whole_IIJ_97 : decode b_M_whole_IIJ 97 = .ok (.iload_n 1, 1) := by decide +kernel
theorem d_M_whole_IIJ_98 : decode b_M_whole_IIJ 98 = .ok (.laload, 1) := by decide +kernel
theorem d_M_whole_IIJ_99 : decode b_M_whole_IIJ 99 = .ok (.invokestatic 251, 3) := by decide +kernel
theorem d_M_whole_IIJ_102 : decode b_M_whole_IIJ 102 = .ok (.lreturn, 1) := by decide +kernel
def f_M_whole_IIJ (S : MS) (x1 : Int32) (x2 : Int32) (x3 : Int64) : Int64 × MS :=
  if (f_M_in_II x1 (8 : Int32)) = 0 then
    ((1 : Int64), S)
  else
    if (f_M_in_II x2 (2 : Int32)) = 0 then
      ((1 : Int64), S)
    else
      if (lg_cmp x3 (-9223372036854775808 : Int64)) = 0 then
        let v13 : Int64 := f_M_exact_ZJII (1 : Int32) (4611686018427387904 : Int64) (1 : Int32) x2
        if x2 = 0 then
          let S16 : MS := u_m_store S (vp_updL (m_store S) x1.toNatClampNeg v13)
          (f_M_told_J (m_store S16 x1.toNatClampNeg), S16)
        else
          let S15 : MS := u_m_store S (vp_updL (m_store S) x1.toNatClampNeg (f_M_toDouble_J v13))
          (f_M_told_J (m_store S15 x1.toNatClampNeg), S15)
      else
        if 0 ≤ (lg_cmp x3 (0 : Int64)) then
          let v5 : Int64 := f_M_exact_ZJII (0 : Int32) (f_jM_abs_J x3) (0 : Int32) x2
          if x2 = 0 then
            let S8 : MS := u_m_store S (vp_updL (m_store S) x1.toNatClampNeg v5)
            (f_M_told_J (m_store S8 x1.toNatClampNeg), S8)
          else
            let S7 : MS := u_m_store S (vp_updL (m_store S) x1.toNatClampNeg (f_M_toDouble_J v5))
            (f_M_told_J (m_store S7 x1.toNatClampNeg), S7)
        else
          let v9 : Int64 := f_M_exact_ZJII (1 : Int32) (f_jM_abs_J x3) (0 : Int32) x2
          if x2 = 0 then
            let S12 : MS := u_m_store S (vp_updL (m_store S) x1.toNatClampNeg v9)
            (f_M_told_J (m_store S12 x1.toNatClampNeg), S12)
          else
            let S11 : MS := u_m_store S (vp_updL (m_store S) x1.toNatClampNeg (f_M_toDouble_J v9))
            (f_M_told_J (m_store S11 x1.toNatClampNeg), S11)
set_option maxHeartbeats 2000000 in
set_option maxRecDepth 100000 in
theorem c_M_whole_IIJ (l : Launch) (dC : Nat → ClassId) (dI : Nat → Nat → Nat) (ad : Nat → Nat) (cJ cI : ClassId) (t0 t1 t2 : Nat) (S : MS) (x1 : Int32) (x2 : Int32) (x3 : Int64) (sz : Nat) : hMl l y_M_whole_IIJ (gw y_M_whole_IIJ b_M_whole_IIJ 8 (some .long)) { frames := 6, cells := 0, slots := 0, locals := 145 } [.ref (ad 0), .int x1, .int x2, .long x3] (dC, dI) classes (tysJI cJ cI) (hE_M t0 t1 t2 (mW ad cJ cI S) sz) (mW ad cJ cI S) sz (f_M_whole_IIJ S x1 x2 x3).1 (mW ad cJ cI (f_M_whole_IIJ S x1 x2 x3).2) := by
  refine Met.ofW (cc := b_M_whole_IIJ) (maxL := 8) (ret := (some .long)) (by decide) rfl ?_
  intro p e s m args below meth c s₁ B hml hv
  obtain ⟨rfl, hsz, hP, hK, hD0, hRT⟩ := hv
  have hx := B.exec
  have hb := B.bytes
  have hr := B.returns
  have hts := atoms_spec (ws := (gw y_M_whole_IIJ b_M_whole_IIJ 8 (some .long))) B.pre
  have hown : s.vm.findClass "MotionLabModel" = some m.cls := findClass_of_methodNamed B.named
  have hlocks := B.notSynchronized
  subst hsz
  have hD := hD0.self (sz := s.heap.size)
  have hRT : RTA t0 t1 t2 (va_A (mW ad cJ cI S) s.heap.size) s s.heap := hRT
  generalize hAe : va_A (mW ad cJ cI S) s.heap.size = A at hD hRT
  have hA : ∀ q : Nat, s.heap.size ≤ q → A q := fun q h => by rw [← hAe]; exact Or.inr h
  have G : hG (dC, dI) classes A s.heap (mW ad cJ cI S) s.heap [] := ⟨hP, hD, va_S.rf⟩
  have hl := lv_entry ([.ref (ad 0), .int x1, .int x2, .long x3]) (n := 8) (Nat.le_of_ble_eq_true rfl)
  rw [lg_entry_eq]
  generalize (lg_sl ([.ref (ad 0), .int x1, .int x2, .long x3]) ++ List.replicate (8 - (lg_sl ([.ref (ad 0), .int x1, .int x2, .long x3])).length) Slot.unset).toArray = ls at hl ⊢
  have hl : lv_has ls 8 [(0, .ref (ad 0)), (1, .int x1), (2, .int x2), (3, .long x3)] := hl
  refine lv_iload_n hx hb d_M_whole_IIJ_0 rfl (lv_at hl 1 rfl) ?_
  refine lv_bipush (v := (8 : Int32)) hx hb d_M_whole_IIJ_1 (by decide) ?_
  refine pu_i (As := [.int x1, .int (8 : Int32)]) (rest := []) ⟨hx, hb, hml, hown, hts⟩ (c_M_in_II l _ x1 (8 : Int32)) pu_pre (gw_call (k := 2) hts tw_489 tw_490 tw_4 tw_491 (by decide +kernel) rfl rfl ⟨Nat.le_of_ble_eq_true rfl, Nat.le_of_ble_eq_true rfl⟩) rfl hl.1 rfl (Nat.le_of_ble_eq_true rfl) ⟨Nat.zero_le _, Nat.zero_le _⟩ d_M_whole_IIJ_3 ?_
  refine lv_if_eq (tgt := 17) hx hb d_M_whole_IIJ_6 (by decide) (fun c1 => ?_) (fun c1 => ?_)
  · refine lv_lconst (v := (1 : Int64)) hx hb d_M_whole_IIJ_17 (by decide) ?_
    exact hg_lret hx hb hr hlocks hK hAe G (by unfold f_M_whole_IIJ; rw [if_pos c1]; exact ⟨rfl, rfl⟩) d_M_whole_IIJ_18
  · refine lv_iload_n hx hb d_M_whole_IIJ_9 rfl (lv_at hl 2 rfl) ?_
    refine lv_iconst (v := 2) hx hb d_M_whole_IIJ_10 (by decide) ?_
    refine pu_i (As := [.int x2, .int (2 : Int32)]) (rest := []) ⟨hx, hb, hml, hown, hts⟩ (c_M_in_II l _ x2 (2 : Int32)) pu_pre (gw_call (k := 2) hts tw_489 tw_490 tw_4 tw_491 (by decide +kernel) rfl rfl ⟨Nat.le_of_ble_eq_true rfl, Nat.le_of_ble_eq_true rfl⟩) rfl hl.1 rfl (Nat.le_of_ble_eq_true rfl) ⟨Nat.zero_le _, Nat.zero_le _⟩ d_M_whole_IIJ_11 ?_
    refine lv_if_ne (tgt := 19) hx hb d_M_whole_IIJ_14 (by decide) (fun c2 => ?_) (fun c2 => ?_)
    · refine lv_lload_n hx hb d_M_whole_IIJ_19 rfl (lv_at hl 3 rfl) ?_
      refine lv_ldc2 (v := (-9223372036854775808 : Int64)) hx hb hown (hts _ (gm tw_675)) d_M_whole_IIJ_20 ?_
      refine W.lcmp hx hb d_M_whole_IIJ_23 ?_
      refine lv_if_ne (tgt := 31) hx hb d_M_whole_IIJ_24 (by decide) (fun c3 => ?_) (fun c3 => ?_)
      · refine lv_iconst (v := 0) hx hb d_M_whole_IIJ_31 (by decide) ?_
        refine lv_istore (lv' := [(5, .int (0 : Int32)), (0, .ref (ad 0)), (1, .int x1), (2, .int x2), (3, .long x3)]) hx hb d_M_whole_IIJ_32 hl (by decide) rfl (fun ls hl => ?_)
        refine lv_iload hx hb d_M_whole_IIJ_34 (lv_at hl 0 rfl) ?_
        refine lv_if_eq (tgt := 51) hx hb d_M_whole_IIJ_36 (by decide) (fun _ => ?_) (fun c0 => absurd c0 (by decide))
        refine lv_lload_n hx hb d_M_whole_IIJ_51 rfl (lv_at hl 4 rfl) ?_
        refine lv_lconst (v := (0 : Int64)) hx hb d_M_whole_IIJ_52 (by decide) ?_
        refine W.lcmp hx hb d_M_whole_IIJ_53 ?_
        refine lv_if_ge (tgt := 61) hx hb d_M_whole_IIJ_54 (by decide) (fun c4 => ?_) (fun c4 => ?_)
        · refine lv_iconst (v := 0) hx hb d_M_whole_IIJ_61 (by decide) ?_
          refine lv_lload_n hx hb d_M_whole_IIJ_62 rfl (lv_at hl 4 rfl) ?_
          refine pu_l (As := [.long x3]) (rest := [.int (0 : Int32)]) ⟨hx, hb, hml, hown, hts⟩ (c_jM_abs_J l _ x3) pu_pre (gw_call (k := 1) hts tw_676 tw_333 tw_6 tw_334 (by decide +kernel) rfl rfl ⟨Nat.le_of_ble_eq_true rfl, Nat.le_of_ble_eq_true rfl⟩) rfl hl.1 rfl (Nat.le_of_ble_eq_true rfl) ⟨Nat.zero_le _, Nat.zero_le _⟩ d_M_whole_IIJ_63 ?_
          refine lv_iconst (v := 0) hx hb d_M_whole_IIJ_66 (by decide) ?_
          refine lv_iload_n hx hb d_M_whole_IIJ_67 rfl (lv_at hl 3 rfl) ?_
          refine pu_l (As := [.int (0 : Int32), .long (f_jM_abs_J x3), .int (0 : Int32), .int x2]) (rest := []) ⟨hx, hb, hml, hown, hts⟩ (c_M_exact_ZJII l _ t0 t1 t2 (0 : Int32) (f_jM_abs_J x3) (0 : Int32) x2 (in_in c2 (by decide) (by decide))) (pr_pre (hx_R hRT G)) (gw_call (k := 4) hts tw_536 tw_537 tw_4 tw_538 (by decide +kernel) rfl rfl ⟨Nat.le_of_ble_eq_true rfl, Nat.le_of_ble_eq_true rfl⟩) rfl hl.1 rfl (Nat.le_of_ble_eq_true rfl) ⟨Nat.zero_le _, Nat.zero_le _⟩ d_M_whole_IIJ_68 ?_
          refine lv_topl (fun v5 e5 => ?_)
          refine lv_lstore (lv' := [(6, .long v5), (5, .int (0 : Int32)), (0, .ref (ad 0)), (1, .int x1), (2, .int x2), (3, .long x3)]) hx hb d_M_whole_IIJ_71 hl (by decide) rfl (fun ls hl => ?_)
          refine lv_aload_n hx hb d_M_whole_IIJ_73 rfl (lv_at hl 2 rfl) ?_
          refine va_get (D := (dC, dI)) (ci := 3) (v := .ref (ad 14)) (C := R_M) (T := F_M) (N := 21) hx hb hts (fun w h => gm (i_M w h)) hown hK G.1 0 rfl rfl 20 (by decide) (hts _ (gm tw_441)) (fun _ h9 => h9) rfl d_M_whole_IIJ_74 ?_
          refine lv_iload_n hx hb d_M_whole_IIJ_77 rfl (lv_at hl 3 rfl) ?_
          refine lv_iload_n hx hb d_M_whole_IIJ_78 rfl (lv_at hl 4 rfl) ?_
          refine lv_if_ne (tgt := 87) hx hb d_M_whole_IIJ_79 (by decide) (fun c6 => ?_) (fun c6 => ?_)
          · refine lv_lload hx hb d_M_whole_IIJ_87 (lv_at hl 0 rfl) ?_
            refine pu_l (As := [.long v5]) (rest := [.int x1, .ref (ad 14)]) ⟨hx, hb, hml, hown, hts⟩ (c_M_toDouble_J l _ t0 t1 t2 v5) (pr_pre (hx_R hRT G)) (gw_call (k := 1) hts tw_570 tw_571 tw_4 tw_572 (by decide +kernel) rfl rfl ⟨Nat.le_of_ble_eq_true rfl, Nat.le_of_ble_eq_true rfl⟩) rfl hl.1 rfl (Nat.le_of_ble_eq_true rfl) ⟨Nat.zero_le _, Nat.zero_le _⟩ d_M_whole_IIJ_89 ?_
            obtain ⟨S7, e7⟩ : ∃ z : MS, z = u_m_store S (vp_updL (m_store S) x1.toNatClampNeg (f_M_toDouble_J v5)) := ⟨_, rfl⟩
            refine hg_last hx hb hK G 14 0 rfl rfl (in_in c1 (by decide) (by decide)) d_M_whole_IIJ_92 (mW ad cJ cI S7) (by rw [e7]; rfl) (fun H locs G => ?_)
            refine lv_aload_n hx hb d_M_whole_IIJ_93 rfl (lv_at hl 2 rfl) ?_
            refine va_get (D := (dC, dI)) (ci := 3) (v := .ref (ad 14)) (C := R_M) (T := F_M) (N := 21) hx hb hts (fun w h => gm (i_M w h)) hown hK G.1 0 rfl rfl 20 (by decide) (hts _ (gm tw_441)) (fun _ h9 => h9) rfl d_M_whole_IIJ_94 ?_
            refine lv_iload_n hx hb d_M_whole_IIJ_97 rfl (lv_at hl 3 rfl) ?_
            refine va_lald hx hb hK G.1 14 0 rfl rfl (in_in c1 (by decide) (by decide)) d_M_whole_IIJ_98 ?_
            refine pu_l (As := [.long (m_store S7 x1.toNatClampNeg)]) (rest := []) ⟨hx, hb, hml, hown, hts⟩ (c_M_told_J l _ (m_store S7 x1.toNatClampNeg)) pu_pre (gw_call (k := 1) hts tw_647 tw_648 tw_4 tw_649 (by decide +kernel) rfl rfl ⟨Nat.le_of_ble_eq_true rfl, Nat.le_of_ble_eq_true rfl⟩) rfl hl.1 rfl (Nat.le_of_ble_eq_true rfl) ⟨Nat.zero_le _, Nat.zero_le _⟩ d_M_whole_IIJ_99 ?_
            exact hg_lret hx hb hr hlocks hK hAe G (by have qe5 := e5.symm; have qe7 := e7.symm; subst qe5 qe7; unfold f_M_whole_IIJ; rw [if_neg c1, if_neg c2, if_neg c3, if_pos c4, if_neg c6]; exact ⟨rfl, rfl⟩) d_M_whole_IIJ_102
          · refine lv_lload hx hb d_M_whole_IIJ_82 (lv_at hl 0 rfl) ?_
            refine lv_goto (tgt := 92) hx hb d_M_whole_IIJ_84 (by decide) ?_
            obtain ⟨S8, e8⟩ : ∃ z : MS, z = u_m_store S (vp_updL (m_store S) x1.toNatClampNeg v5) := ⟨_, rfl⟩
            refine hg_last hx hb hK G 14 0 rfl rfl (in_in c1 (by decide) (by decide)) d_M_whole_IIJ_92 (mW ad cJ cI S8) (by rw [e8]; rfl) (fun H locs G => ?_)
            refine lv_aload_n hx hb d_M_whole_IIJ_93 rfl (lv_at hl 2 rfl) ?_
            refine va_get (D := (dC, dI)) (ci := 3) (v := .ref (ad 14)) (C := R_M) (T := F_M) (N := 21) hx hb hts (fun w h => gm (i_M w h)) hown hK G.1 0 rfl rfl 20 (by decide) (hts _ (gm tw_441)) (fun _ h9 => h9) rfl d_M_whole_IIJ_94 ?_
            refine lv_iload_n hx hb d_M_whole_IIJ_97 rfl (lv_at hl 3 rfl) ?_
            refine va_lald hx hb hK G.1 14 0 rfl rfl (in_in c1 (by decide) (by decide)) d_M_whole_IIJ_98 ?_
            refine pu_l (As := [.long (m_store S8 x1.toNatClampNeg)]) (rest := []) ⟨hx, hb, hml, hown, hts⟩ (c_M_told_J l _ (m_store S8 x1.toNatClampNeg)) pu_pre (gw_call (k := 1) hts tw_647 tw_648 tw_4 tw_649 (by decide +kernel) rfl rfl ⟨Nat.le_of_ble_eq_true rfl, Nat.le_of_ble_eq_true rfl⟩) rfl hl.1 rfl (Nat.le_of_ble_eq_true rfl) ⟨Nat.zero_le _, Nat.zero_le _⟩ d_M_whole_IIJ_99 ?_
            exact hg_lret hx hb hr hlocks hK hAe G (by have qe5 := e5.symm; have qe8 := e8.symm; subst qe5 qe8; unfold f_M_whole_IIJ; rw [if_neg c1, if_neg c2, if_neg c3, if_pos c4, if_pos c6]; exact ⟨rfl, rfl⟩) d_M_whole_IIJ_102
        · refine lv_iconst (v := 1) hx hb d_M_whole_IIJ_57 (by decide) ?_
          refine lv_goto (tgt := 62) hx hb d_M_whole_IIJ_58 (by decide) ?_
          refine lv_lload_n hx hb d_M_whole_IIJ_62 rfl (lv_at hl 4 rfl) ?_
          refine pu_l (As := [.long x3]) (rest := [.int (1 : Int32)]) ⟨hx, hb, hml, hown, hts⟩ (c_jM_abs_J l _ x3) pu_pre (gw_call (k := 1) hts tw_676 tw_333 tw_6 tw_334 (by decide +kernel) rfl rfl ⟨Nat.le_of_ble_eq_true rfl, Nat.le_of_ble_eq_true rfl⟩) rfl hl.1 rfl (Nat.le_of_ble_eq_true rfl) ⟨Nat.zero_le _, Nat.zero_le _⟩ d_M_whole_IIJ_63 ?_
          refine lv_iconst (v := 0) hx hb d_M_whole_IIJ_66 (by decide) ?_
          refine lv_iload_n hx hb d_M_whole_IIJ_67 rfl (lv_at hl 3 rfl) ?_
          refine pu_l (As := [.int (1 : Int32), .long (f_jM_abs_J x3), .int (0 : Int32), .int x2]) (rest := []) ⟨hx, hb, hml, hown, hts⟩ (c_M_exact_ZJII l _ t0 t1 t2 (1 : Int32) (f_jM_abs_J x3) (0 : Int32) x2 (in_in c2 (by decide) (by decide))) (pr_pre (hx_R hRT G)) (gw_call (k := 4) hts tw_536 tw_537 tw_4 tw_538 (by decide +kernel) rfl rfl ⟨Nat.le_of_ble_eq_true rfl, Nat.le_of_ble_eq_true rfl⟩) rfl hl.1 rfl (Nat.le_of_ble_eq_true rfl) ⟨Nat.zero_le _, Nat.zero_le _⟩ d_M_whole_IIJ_68 ?_
          refine lv_topl (fun v9 e9 => ?_)
          refine lv_lstore (lv' := [(6, .long v9), (5, .int (0 : Int32)), (0, .ref (ad 0)), (1, .int x1), (2, .int x2), (3, .long x3)]) hx hb d_M_whole_IIJ_71 hl (by decide) rfl (fun ls hl => ?_)
          refine lv_aload_n hx hb d_M_whole_IIJ_73 rfl (lv_at hl 2 rfl) ?_
          refine va_get (D := (dC, dI)) (ci := 3) (v := .ref (ad 14)) (C := R_M) (T := F_M) (N := 21) hx hb hts (fun w h => gm (i_M w h)) hown hK G.1 0 rfl rfl 20 (by decide) (hts _ (gm tw_441)) (fun _ h9 => h9) rfl d_M_whole_IIJ_74 ?_
          refine lv_iload_n hx hb d_M_whole_IIJ_77 rfl (lv_at hl 3 rfl) ?_
          refine lv_iload_n hx hb d_M_whole_IIJ_78 rfl (lv_at hl 4 rfl) ?_
          refine lv_if_ne (tgt := 87) hx hb d_M_whole_IIJ_79 (by decide) (fun c10 => ?_) (fun c10 => ?_)
          · refine lv_lload hx hb d_M_whole_IIJ_87 (lv_at hl 0 rfl) ?_
            refine pu_l (As := [.long v9]) (rest := [.int x1, .ref (ad 14)]) ⟨hx, hb, hml, hown, hts⟩ (c_M_toDouble_J l _ t0 t1 t2 v9) (pr_pre (hx_R hRT G)) (gw_call (k := 1) hts tw_570 tw_571 tw_4 tw_572 (by decide +kernel) rfl rfl ⟨Nat.le_of_ble_eq_true rfl, Nat.le_of_ble_eq_true rfl⟩) rfl hl.1 rfl (Nat.le_of_ble_eq_true rfl) ⟨Nat.zero_le _, Nat.zero_le _⟩ d_M_whole_IIJ_89 ?_
            obtain ⟨S11, e11⟩ : ∃ z : MS, z = u_m_store S (vp_updL (m_store S) x1.toNatClampNeg (f_M_toDouble_J v9)) := ⟨_, rfl⟩
            refine hg_last hx hb hK G 14 0 rfl rfl (in_in c1 (by decide) (by decide)) d_M_whole_IIJ_92 (mW ad cJ cI S11) (by rw [e11]; rfl) (fun H locs G => ?_)
            refine lv_aload_n hx hb d_M_whole_IIJ_93 rfl (lv_at hl 2 rfl) ?_
            refine va_get (D := (dC, dI)) (ci := 3) (v := .ref (ad 14)) (C := R_M) (T := F_M) (N := 21) hx hb hts (fun w h => gm (i_M w h)) hown hK G.1 0 rfl rfl 20 (by decide) (hts _ (gm tw_441)) (fun _ h9 => h9) rfl d_M_whole_IIJ_94 ?_
            refine lv_iload_n hx hb d_M_whole_IIJ_97 rfl (lv_at hl 3 rfl) ?_
            refine va_lald hx hb hK G.1 14 0 rfl rfl (in_in c1 (by decide) (by decide)) d_M_whole_IIJ_98 ?_
            refine pu_l (As := [.long (m_store S11 x1.toNatClampNeg)]) (rest := []) ⟨hx, hb, hml, hown, hts⟩ (c_M_told_J l _ (m_store S11 x1.toNatClampNeg)) pu_pre (gw_call (k := 1) hts tw_647 tw_648 tw_4 tw_649 (by decide +kernel) rfl rfl ⟨Nat.le_of_ble_eq_true rfl, Nat.le_of_ble_eq_true rfl⟩) rfl hl.1 rfl (Nat.le_of_ble_eq_true rfl) ⟨Nat.zero_le _, Nat.zero_le _⟩ d_M_whole_IIJ_99 ?_
            exact hg_lret hx hb hr hlocks hK hAe G (by have qe9 := e9.symm; have qe11 := e11.symm; subst qe9 qe11; unfold f_M_whole_IIJ; rw [if_neg c1, if_neg c2, if_neg c3, if_neg c4, if_neg c10]; exact ⟨rfl, rfl⟩) d_M_whole_IIJ_102
          · refine lv_lload hx hb d_M_whole_IIJ_82 (lv_at hl 0 rfl) ?_
            refine lv_goto (tgt := 92) hx hb d_M_whole_IIJ_84 (by decide) ?_
            obtain ⟨S12, e12⟩ : ∃ z : MS, z = u_m_store S (vp_updL (m_store S) x1.toNatClampNeg v9) := ⟨_, rfl⟩
            refine hg_last hx hb hK G 14 0 rfl rfl (in_in c1 (by decide) (by decide)) d_M_whole_IIJ_92 (mW ad cJ cI S12) (by rw [e12]; rfl) (fun H locs G => ?_)
            refine lv_aload_n hx hb d_M_whole_IIJ_93 rfl (lv_at hl 2 rfl) ?_
            refine va_get (D := (dC, dI)) (ci := 3) (v := .ref (ad 14)) (C := R_M) (T := F_M) (N := 21) hx hb hts (fun w h => gm (i_M w h)) hown hK G.1 0 rfl rfl 20 (by decide) (hts _ (gm tw_441)) (fun _ h9 => h9) rfl d_M_whole_IIJ_94 ?_
            refine lv_iload_n hx hb d_M_whole_IIJ_97 rfl (lv_at hl 3 rfl) ?_
            refine va_lald hx hb hK G.1 14 0 rfl rfl (in_in c1 (by decide) (by decide)) d_M_whole_IIJ_98 ?_
            refine pu_l (As := [.long (m_store S12 x1.toNatClampNeg)]) (rest := []) ⟨hx, hb, hml, hown, hts⟩ (c_M_told_J l _ (m_store S12 x1.toNatClampNeg)) pu_pre (gw_call (k := 1) hts tw_647 tw_648 tw_4 tw_649 (by decide +kernel) rfl rfl ⟨Nat.le_of_ble_eq_true rfl, Nat.le_of_ble_eq_true rfl⟩) rfl hl.1 rfl (Nat.le_of_ble_eq_true rfl) ⟨Nat.zero_le _, Nat.zero_le _⟩ d_M_whole_IIJ_99 ?_
            exact hg_lret hx hb hr hlocks hK hAe G (by have qe9 := e9.symm; have qe12 := e12.symm; subst qe9 qe12; unfold f_M_whole_IIJ; rw [if_neg c1, if_neg c2, if_neg c3, if_neg c4, if_pos c10]; exact ⟨rfl, rfl⟩) d_M_whole_IIJ_102
      · refine lv_iconst (v := 1) hx hb d_M_whole_IIJ_27 (by decide) ?_
        refine lv_goto (tgt := 32) hx hb d_M_whole_IIJ_28 (by decide) ?_
        refine lv_istore (lv' := [(5, .int (1 : Int32)), (0, .ref (ad 0)), (1, .int x1), (2, .int x2), (3, .long x3)]) hx hb d_M_whole_IIJ_32 hl (by decide) rfl (fun ls hl => ?_)
        refine lv_iload hx hb d_M_whole_IIJ_34 (lv_at hl 0 rfl) ?_
        refine lv_if_eq (tgt := 51) hx hb d_M_whole_IIJ_36 (by decide) (fun c0 => absurd c0 (by decide)) (fun _ => ?_)
        refine lv_iconst (v := 1) hx hb d_M_whole_IIJ_39 (by decide) ?_
        refine lv_ldc2 (v := (4611686018427387904 : Int64)) hx hb hown (hts _ (gm tw_630)) d_M_whole_IIJ_40 ?_
        refine lv_iconst (v := 1) hx hb d_M_whole_IIJ_43 (by decide) ?_
        refine lv_iload_n hx hb d_M_whole_IIJ_44 rfl (lv_at hl 3 rfl) ?_
        refine pu_l (As := [.int (1 : Int32), .long (4611686018427387904 : Int64), .int (1 : Int32), .int x2]) (rest := []) ⟨hx, hb, hml, hown, hts⟩ (c_M_exact_ZJII l _ t0 t1 t2 (1 : Int32) (4611686018427387904 : Int64) (1 : Int32) x2 (in_in c2 (by decide) (by decide))) (pr_pre (hx_R hRT G)) (gw_call (k := 4) hts tw_536 tw_537 tw_4 tw_538 (by decide +kernel) rfl rfl ⟨Nat.le_of_ble_eq_true rfl, Nat.le_of_ble_eq_true rfl⟩) rfl hl.1 rfl (Nat.le_of_ble_eq_true rfl) ⟨Nat.zero_le _, Nat.zero_le _⟩ d_M_whole_IIJ_45 ?_
        refine lv_goto (tgt := 71) hx hb d_M_whole_IIJ_48 (by decide) ?_
        refine lv_topl (fun v13 e13 => ?_)
        refine lv_lstore (lv' := [(6, .long v13), (5, .int (1 : Int32)), (0, .ref (ad 0)), (1, .int x1), (2, .int x2), (3, .long x3)]) hx hb d_M_whole_IIJ_71 hl (by decide) rfl (fun ls hl => ?_)
        refine lv_aload_n hx hb d_M_whole_IIJ_73 rfl (lv_at hl 2 rfl) ?_
        refine va_get (D := (dC, dI)) (ci := 3) (v := .ref (ad 14)) (C := R_M) (T := F_M) (N := 21) hx hb hts (fun w h => gm (i_M w h)) hown hK G.1 0 rfl rfl 20 (by decide) (hts _ (gm tw_441)) (fun _ h9 => h9) rfl d_M_whole_IIJ_74 ?_
        refine lv_iload_n hx hb d_M_whole_IIJ_77 rfl (lv_at hl 3 rfl) ?_
        refine lv_iload_n hx hb d_M_whole_IIJ_78 rfl (lv_at hl 4 rfl) ?_
        refine lv_if_ne (tgt := 87) hx hb d_M_whole_IIJ_79 (by decide) (fun c14 => ?_) (fun c14 => ?_)
        · refine lv_lload hx hb d_M_whole_IIJ_87 (lv_at hl 0 rfl) ?_
          refine pu_l (As := [.long v13]) (rest := [.int x1, .ref (ad 14)]) ⟨hx, hb, hml, hown, hts⟩ (c_M_toDouble_J l _ t0 t1 t2 v13) (pr_pre (hx_R hRT G)) (gw_call (k := 1) hts tw_570 tw_571 tw_4 tw_572 (by decide +kernel) rfl rfl ⟨Nat.le_of_ble_eq_true rfl, Nat.le_of_ble_eq_true rfl⟩) rfl hl.1 rfl (Nat.le_of_ble_eq_true rfl) ⟨Nat.zero_le _, Nat.zero_le _⟩ d_M_whole_IIJ_89 ?_
          obtain ⟨S15, e15⟩ : ∃ z : MS, z = u_m_store S (vp_updL (m_store S) x1.toNatClampNeg (f_M_toDouble_J v13)) := ⟨_, rfl⟩
          refine hg_last hx hb hK G 14 0 rfl rfl (in_in c1 (by decide) (by decide)) d_M_whole_IIJ_92 (mW ad cJ cI S15) (by rw [e15]; rfl) (fun H locs G => ?_)
          refine lv_aload_n hx hb d_M_whole_IIJ_93 rfl (lv_at hl 2 rfl) ?_
          refine va_get (D := (dC, dI)) (ci := 3) (v := .ref (ad 14)) (C := R_M) (T := F_M) (N := 21) hx hb hts (fun w h => gm (i_M w h)) hown hK G.1 0 rfl rfl 20 (by decide) (hts _ (gm tw_441)) (fun _ h9 => h9) rfl d_M_whole_IIJ_94 ?_
          refine lv_iload_n hx hb d_M_whole_IIJ_97 rfl (lv_at hl 3 rfl) ?_
          refine va_lald hx hb hK G.1 14 0 rfl rfl (in_in c1 (by decide) (by decide)) d_M_whole_IIJ_98 ?_
          refine pu_l (As := [.long (m_store S15 x1.toNatClampNeg)]) (rest := []) ⟨hx, hb, hml, hown, hts⟩ (c_M_told_J l _ (m_store S15 x1.toNatClampNeg)) pu_pre (gw_call (k := 1) hts tw_647 tw_648 tw_4 tw_649 (by decide +kernel) rfl rfl ⟨Nat.le_of_ble_eq_true rfl, Nat.le_of_ble_eq_true rfl⟩) rfl hl.1 rfl (Nat.le_of_ble_eq_true rfl) ⟨Nat.zero_le _, Nat.zero_le _⟩ d_M_whole_IIJ_99 ?_
          exact hg_lret hx hb hr hlocks hK hAe G (by have qe13 := e13.symm; have qe15 := e15.symm; subst qe13 qe15; unfold f_M_whole_IIJ; rw [if_neg c1, if_neg c2, if_pos c3, if_neg c14]; exact ⟨rfl, rfl⟩) d_M_whole_IIJ_102
        · refine lv_lload hx hb d_M_whole_IIJ_82 (lv_at hl 0 rfl) ?_
          refine lv_goto (tgt := 92) hx hb d_M_whole_IIJ_84 (by decide) ?_
          obtain ⟨S16, e16⟩ : ∃ z : MS, z = u_m_store S (vp_updL (m_store S) x1.toNatClampNeg v13) := ⟨_, rfl⟩
          refine hg_last hx hb hK G 14 0 rfl rfl (in_in c1 (by decide) (by decide)) d_M_whole_IIJ_92 (mW ad cJ cI S16) (by rw [e16]; rfl) (fun H locs G => ?_)
          refine lv_aload_n hx hb d_M_whole_IIJ_93 rfl (lv_at hl 2 rfl) ?_
          refine va_get (D := (dC, dI)) (ci := 3) (v := .ref (ad 14)) (C := R_M) (T := F_M) (N := 21) hx hb hts (fun w h => gm (i_M w h)) hown hK G.1 0 rfl rfl 20 (by decide) (hts _ (gm tw_441)) (fun _ h9 => h9) rfl d_M_whole_IIJ_94 ?_
          refine lv_iload_n hx hb d_M_whole_IIJ_97 rfl (lv_at hl 3 rfl) ?_
          refine va_lald hx hb hK G.1 14 0 rfl rfl (in_in c1 (by decide) (by decide)) d_M_whole_IIJ_98 ?_
          refine pu_l (As := [.long (m_store S16 x1.toNatClampNeg)]) (rest := []) ⟨hx, hb, hml, hown, hts⟩ (c_M_told_J l _ (m_store S16 x1.toNatClampNeg)) pu_pre (gw_call (k := 1) hts tw_647 tw_648 tw_4 tw_649 (by decide +kernel) rfl rfl ⟨Nat.le_of_ble_eq_true rfl, Nat.le_of_ble_eq_true rfl⟩) rfl hl.1 rfl (Nat.le_of_ble_eq_true rfl) ⟨Nat.zero_le _, Nat.zero_le _⟩ d_M_whole_IIJ_99 ?_
          exact hg_lret hx hb hr hlocks hK hAe G (by have qe13 := e13.symm; have qe16 := e16.symm; subst qe13 qe16; unfold f_M_whole_IIJ; rw [if_neg c1, if_neg c2, if_pos c3, if_pos c14]; exact ⟨rfl, rfl⟩) d_M_whole_IIJ_102
    · refine lv_lconst (v := (1 : Int64)) hx hb d_M_whole_IIJ_17 (by decide) ?_
      exact hg_lret hx hb hr hlocks hK hAe G (by unfold f_M_whole_IIJ; rw [if_neg c1, if_pos c2]; exact ⟨rfl, rfl⟩) d_M_whole_IIJ_18
-- ===== MotionLabModel.cast(II)J 
abbrev y_M_cast_II : MethodName := ⟨"MotionLabModel", "cast", "(II)J"⟩
abbrev b_M_cast_II : ByteArray := prog_6_method_54_code
theorem d_M_cast_II_0 : decode b_M_cast_II 0 = .ok (.iload_n 1, 1) := by decide +kernel
theorem d_M_cast_II_1 : decode b_M_cast_II 1 = .ok (.bipush 8, 2) := by decide +kernel
theorem d_M_cast_II_3 : decode b_M_cast_II 3 = .ok (.invokestatic 190, 3) := by decide +kernel
theorem d_M_cast_II_6 : decode b_M_cast_II 6 = .ok (.ifCond .eq 11, 3) := by decide +kernel
theorem d_M_cast_II_9 : decode b_M_cast_II 9 = .ok (.iload_n 2, 1) := by decide +kernel
theorem d_M_cast_II_10 : decode b_M_cast_II 10 = .ok (.iconst 5, 1) := by decide +kernel
theorem d_M_cast_II_11 : decode b_M_cast_II 11 = .ok (.invokestatic 190, 3) := by decide +kernel
theorem d_M_cast_II_14 : decode b_M_cast_II 14 = .ok (.ifCond .ne 7, 3) := by decide +kernel
theorem d_M_cast_II_17 : decode b_M_cast_II 17 = .ok (.ldc2_w 125, 3) := by decide +kernel
theorem d_M_cast_II_20 : decode b_M_cast_II 20 = .ok (.lreturn, 1) := by decide +kernel
theorem d_M_cast_II_21 : decode b_M_cast_II 21 = .ok (.iload_n 2, 1) := by decide +kernel
theorem d_M_cast_II_22 : decode b_M_cast_II 22 = .ok (.iconst 1, 1) := by decide +kernel
theorem d_M_cast_II_23 : decode b_M_cast_II 23 = .ok (.if_icmp .ne 19, 3) := by decide +kernel
theorem d_M_cast_II_26 : decode b_M_cast_II 26 = .ok (.aload_n 0, 1) := by decide +kernel
theorem d_M_cast_II_27 : decode b_M_cast_II 27 = .ok (.getfield 187, 3) := by decide +kernel
theorem d_M_cast_II_30 : decode b_M_cast_II 30 = .ok (.iload_n 1, 1) := by decide +kernel
theorem d_M_cast_II_31 : decode b_M_cast_II 31 = .ok (.laload, 1) := by decide +kernel
theorem d_M_cast_II_32 : decode b_M_cast_II 32 = .ok (.ldc2_w 265, 3) := by decide +kernel
theorem d_M_cast_II_35 : decode b_M_cast_II 35 = .ok (.ldc2_w 270, 3) := by decide +kernel
theorem d_M_cast_II_38 : decode b_M_cast_II 38 = .ok (.invokestatic 272, 3) := by decide +kernel
theorem d_M_cast_II_41 : decode b_M_cast_II 41 = .ok (.lreturn, 1) := by decide +kernel
theorem d_M_cast_II_42 : decode b_M_cast_II 42 = .ok (.aload_n 0, 1) := by decide +kernel
theorem d_M_cast_II_43 : decode b_M_cast_II 43 = .ok (.getfield 187, 3) := by decide +kernel
theorem d_M_cast_II_46 : decode b_M_cast_II 46 = .ok (.iload_n 1, 1) := by decide +kernel
theorem d_M_cast_II_47 : decode b_M_cast_II 47 = .ok (.laload, 1) := by decide +kernel
theorem d_M_cast_II_48 : decode b_M_cast_II 48 = .ok (.ldc2_w 278, 3) := by decide +kernel
theorem d_M_cast_II_51 : decode b_M_cast_II 51 = .ok (.ldc2_w 280, 3) := by decide +kernel
theorem d_M_cast_II_54 : decode b_M_cast_II 54 = .ok (.invokestatic 272, 3) := by decide +kernel
theorem d_M_cast_II_57 : decode b_M_cast_II 57 = .ok (.l2i, 1) := by decide +kernel
theorem d_M_cast_II_58 : decode b_M_cast_II 58 = .ok (.istore_n 3, 1) := by decide +kernel
theorem d_M_cast_II_59 : decode b_M_cast_II 59 = .ok (.iload_n 2, 1) := by decide +kernel
theorem d_M_cast_II_60 : decode b_M_cast_II 60 = .ok (.ifCond .ne 8, 3) := by decide +kernel
theorem d_M_cast_II_63 : decode b_M_cast_II 63 = .ok (.iload_n 3, 1) := by decide +kernel
theorem d_M_cast_II_64 : decode b_M_cast_II 64 = .ok (.i2l, 1) := by decide +kernel
theorem d_M_cast_II_65 : decode b_M_cast_II 65 = .ok (.goto 28, 3) := by decide +kernel
theorem d_M_cast_II_68 : decode b_M_cast_II 68 = .ok (.iload_n 2, 1) := by decide +kernel
theorem d_M_cast_II_69 : decode b_M_cast_II 69 = .ok (.iconst 2, 1) := by decide +kernel
theorem d_M_cast_II_70 : decode b_M_cast_II 70 = .ok (.if_icmp .ne 9, 3) := by decide +kernel
theorem d_M_cast_II_73 : decode b_M_cast_II 73 = .ok (.iload_n 3, 1) := by decide +kernel
theorem d_M_cast_II_74 : decode b_M_cast_II 74 = .ok (.i2s, 1) := by decide +kernel
theorem d_M_cast_II_75 : decode b_M_cast_II 75 = .ok (.i2l, 1) := by decide +kernel
theorem d_M_cast_II_76 : decode b_M_cast_II 76 = .ok (.goto 17, 3) := by decide +kernel
theorem d_M_cast_II_79 : decode b_M_cast_II 79 = .ok (.iload_n 2, 1) := by decide +kernel
theorem d_M_cast_II_80 : decode b_M_cast_II 80 = .ok (.iconst 3, 1) := by decide +kernel
theorem d_M_cast_II_81 : decode b_M_cast_II 81 = .ok (.if_icmp .ne 9, 3) := by decide +kernel
theorem d_M_cast_II_84 : decode b_M_cast_II 84 = .ok (.iload_n 3, 1) := by decide +kernel
theorem d_M_cast_II_85 : decode b_M_cast_II 85 = .ok (.i2c, 1) := by decide +kernel
theorem d_M_cast_II_86 : decode b_M_cast_II 86 = .ok (.i2l, 1) := by decide +kernel
theorem d_M_cast_II_87 : decode b_M_cast_II 87 = .ok (.goto 6, 3) := by decide +kernel
theorem d_M_cast_II_90 : decode b_M_cast_II 90 = .ok (.iload_n 3, 1) := by decide +kernel
theorem d_M_cast_II_91 : decode b_M_cast_II 91 = .ok (.i2b, 1) := by decide +kernel
theorem d_M_cast_II_92 : decode b_M_cast_II 92 = .ok (.i2l, 1) := by decide +kernel
theorem d_M_cast_II_93 : decode b_M_cast_II 93 = .ok (.lreturn, 1) := by decide +kernel
def f_M_cast_II (S : MS) (x1 : Int32) (x2 : Int32) : Int64 :=
  if (f_M_in_II x1 (8 : Int32)) = 0 then
    (4611686018427387904 : Int64)
  else
    if (f_M_in_II x2 (5 : Int32)) = 0 then
      (4611686018427387904 : Int64)
    else
      if x2 = (1 : Int32) then
        f_M_cutTo_JJJ (m_store S x1.toNatClampNeg) (-9223372036854775808 : Int64) (9223372036854775807 : Int64)
      else
        let v4 : Int32 := (f_M_cutTo_JJJ (m_store S x1.toNatClampNeg) (-2147483648 : Int64) (2147483647 : Int64)).toInt32
        if x2 = 0 then
          v4.toInt64
        else
          if x2 = (2 : Int32) then
            (v4.toInt16.toInt32).toInt64
          else
            if x2 = (3 : Int32) then
              ((v4.toUInt32 % 65536).toInt32).toInt64
            else
              (v4.toInt8.toInt32).toInt64
set_option maxHeartbeats 2000000 in
set_option maxRecDepth 100000 in
theorem c_M_cast_II (l : Launch) (dC : Nat → ClassId) (dI : Nat → Nat → Nat) (ad : Nat → Nat) (cJ cI : ClassId) (t0 t1 t2 : Nat) (S : MS) (x1 : Int32) (x2 : Int32) (sz : Nat) : hMl l y_M_cast_II (gw y_M_cast_II b_M_cast_II 4 (some .long)) { frames := 4, cells := 0, slots := 0, locals := 102 } [.ref (ad 0), .int x1, .int x2] (dC, dI) classes (tysJI cJ cI) (hE_M t0 t1 t2 (mW ad cJ cI S) sz) (mW ad cJ cI S) sz (f_M_cast_II S x1 x2) (mW ad cJ cI S) := by
  refine Met.ofW (cc := b_M_cast_II) (maxL := 4) (ret := (some .long)) (by decide) rfl ?_
  intro p e s m args below meth c s₁ B hml hv
  obtain ⟨rfl, hsz, hP, hK, hD0, hRT⟩ := hv
  have hx := B.exec
  have hb := B.bytes
  have hr := B.returns
  have hts := atoms_spec (ws := (gw y_M_cast_II b_M_cast_II 4 (some .long))) B.pre
  have hown : s.vm.findClass "MotionLabModel" = some m.cls := findClass_of_methodNamed B.named
  have hlocks := B.notSynchronized
  subst hsz
  have hD := hD0.self (sz := s.heap.size)
  have hRT : RTA t0 t1 t2 (va_A (mW ad cJ cI S) s.heap.size) s s.heap := hRT
  generalize hAe : va_A (mW ad cJ cI S) s.heap.size = A at hD hRT
  have hA : ∀ q : Nat, s.heap.size ≤ q → A q := fun q h => by rw [← hAe]; exact Or.inr h
  have G : hG (dC, dI) classes A s.heap (mW ad cJ cI S) s.heap [] := ⟨hP, hD, va_S.rf⟩
  have hl := lv_entry ([.ref (ad 0), .int x1, .int x2]) (n := 4) (Nat.le_of_ble_eq_true rfl)
  rw [lg_entry_eq]
  generalize (lg_sl ([.ref (ad 0), .int x1, .int x2]) ++ List.replicate (4 - (lg_sl ([.ref (ad 0), .int x1, .int x2])).length) Slot.unset).toArray = ls at hl ⊢
  have hl : lv_has ls 4 [(0, .ref (ad 0)), (1, .int x1), (2, .int x2)] := hl
  refine lv_iload_n hx hb d_M_cast_II_0 rfl (lv_at hl 1 rfl) ?_
  refine lv_bipush (v := (8 : Int32)) hx hb d_M_cast_II_1 (by decide) ?_
  refine pu_i (As := [.int x1, .int (8 : Int32)]) (rest := []) ⟨hx, hb, hml, hown, hts⟩ (c_M_in_II l _ x1 (8 : Int32)) pu_pre (gw_call (k := 2) hts tw_489 tw_490 tw_4 tw_491 (by decide +kernel) rfl rfl ⟨Nat.le_of_ble_eq_true rfl, Nat.le_of_ble_eq_true rfl⟩) rfl hl.1 rfl (Nat.le_of_ble_eq_true rfl) ⟨Nat.zero_le _, Nat.zero_le _⟩ d_M_cast_II_3 ?_
  refine lv_if_eq (tgt := 17) hx hb d_M_cast_II_6 (by decide) (fun c1 => ?_) (fun c1 => ?_)
  · refine lv_ldc2 (v := (4611686018427387904 : Int64)) hx hb hown (hts _ (gm tw_630)) d_M_cast_II_17 ?_
    exact hg_lret hx hb hr hlocks hK hAe G (by have e9 : f_M_cast_II S x1 x2 = (4611686018427387904 : Int64) := (by exact (if_pos c1)); exact ⟨Eq.symm e9, rfl⟩) d_M_cast_II_20
  · refine lv_iload_n hx hb d_M_cast_II_9 rfl (lv_at hl 2 rfl) ?_
    refine lv_iconst (v := 5) hx hb d_M_cast_II_10 (by decide) ?_
    refine pu_i (As := [.int x2, .int (5 : Int32)]) (rest := []) ⟨hx, hb, hml, hown, hts⟩ (c_M_in_II l _ x2 (5 : Int32)) pu_pre (gw_call (k := 2) hts tw_489 tw_490 tw_4 tw_491 (by decide +kernel) rfl rfl ⟨Nat.le_of_ble_eq_true rfl, Nat.le_of_ble_eq_true rfl⟩) rfl hl.1 rfl (Nat.le_of_ble_eq_true rfl) ⟨Nat.zero_le _, Nat.zero_le _⟩ d_M_cast_II_11 ?_
    refine lv_if_ne (tgt := 21) hx hb d_M_cast_II_14 (by decide) (fun c2 => ?_) (fun c2 => ?_)
    · refine lv_iload_n hx hb d_M_cast_II_21 rfl (lv_at hl 2 rfl) ?_
      refine lv_iconst (v := 1) hx hb d_M_cast_II_22 (by decide) ?_
      refine lv_icmp_ne (tgt := 42) hx hb d_M_cast_II_23 (by decide) (fun c3 => ?_) (fun c3 => ?_)
      · refine lv_aload_n hx hb d_M_cast_II_42 rfl (lv_at hl 0 rfl) ?_
        refine va_get (D := (dC, dI)) (ci := 3) (v := .ref (ad 14)) (C := R_M) (T := F_M) (N := 21) hx hb hts (fun w h => gm (i_M w h)) hown hK G.1 0 rfl rfl 20 (by decide) (hts _ (gm tw_441)) (fun _ h9 => h9) rfl d_M_cast_II_43 ?_
        refine lv_iload_n hx hb d_M_cast_II_46 rfl (lv_at hl 1 rfl) ?_
        refine va_lald hx hb hK G.1 14 0 rfl rfl (in_in c1 (by decide) (by decide)) d_M_cast_II_47 ?_
        refine lv_ldc2 (v := (-2147483648 : Int64)) hx hb hown (hts _ (gm tw_685)) d_M_cast_II_48 ?_
        refine lv_ldc2 (v := (2147483647 : Int64)) hx hb hown (hts _ (gm tw_686)) d_M_cast_II_51 ?_
        refine pu_l (As := [.long (m_store S x1.toNatClampNeg), .long (-2147483648 : Int64), .long (2147483647 : Int64)]) (rest := []) ⟨hx, hb, hml, hown, hts⟩ (c_M_cutTo_JJJ l _ t0 t1 t2 (m_store S x1.toNatClampNeg) (-2147483648 : Int64) (2147483647 : Int64)) (pr_pre (hx_R hRT G)) (gw_call (k := 3) hts tw_682 tw_683 tw_4 tw_684 (by decide +kernel) rfl rfl ⟨Nat.le_of_ble_eq_true rfl, Nat.le_of_ble_eq_true rfl⟩) rfl hl.1 rfl (Nat.le_of_ble_eq_true rfl) ⟨Nat.zero_le _, Nat.zero_le _⟩ d_M_cast_II_54 ?_
        refine lv_l2i hx hb d_M_cast_II_57 rfl ?_
        refine lv_topi (fun v4 e4 => ?_)
        refine lv_istore_n (lv' := [(3, .int v4), (0, .ref (ad 0)), (1, .int x1), (2, .int x2)]) hx hb d_M_cast_II_58 rfl hl (by decide) rfl (fun ls hl => ?_)
        refine lv_iload_n hx hb d_M_cast_II_59 rfl (lv_at hl 3 rfl) ?_
        refine lv_if_ne (tgt := 68) hx hb d_M_cast_II_60 (by decide) (fun c5 => ?_) (fun c5 => ?_)
        · refine lv_iload_n hx hb d_M_cast_II_68 rfl (lv_at hl 3 rfl) ?_
          refine lv_iconst (v := 2) hx hb d_M_cast_II_69 (by decide) ?_
          refine lv_icmp_ne (tgt := 79) hx hb d_M_cast_II_70 (by decide) (fun c6 => ?_) (fun c6 => ?_)
          · refine lv_iload_n hx hb d_M_cast_II_79 rfl (lv_at hl 3 rfl) ?_
            refine lv_iconst (v := 3) hx hb d_M_cast_II_80 (by decide) ?_
            refine lv_icmp_ne (tgt := 90) hx hb d_M_cast_II_81 (by decide) (fun c7 => ?_) (fun c7 => ?_)
            · refine lv_iload_n hx hb d_M_cast_II_90 rfl (lv_at hl 0 rfl) ?_
              refine lv_i2b hx hb d_M_cast_II_91 rfl ?_
              refine lv_i2l hx hb d_M_cast_II_92 rfl ?_
              exact hg_lret hx hb hr hlocks hK hAe G (by have e9 : f_M_cast_II S x1 x2 = (v4.toInt8.toInt32).toInt64 := (by have qe4 := e4.symm; subst qe4; exact (Eq.trans (if_neg c1) (Eq.trans (if_neg c2) (Eq.trans (if_neg c3) (Eq.trans (if_neg c5) (Eq.trans (if_neg c6) (if_neg c7))))))); exact ⟨Eq.symm e9, rfl⟩) d_M_cast_II_93
            · refine lv_iload_n hx hb d_M_cast_II_84 rfl (lv_at hl 0 rfl) ?_
              refine lv_i2c hx hb d_M_cast_II_85 rfl ?_
              refine lv_i2l hx hb d_M_cast_II_86 rfl ?_
              refine lv_goto (tgt := 93) hx hb d_M_cast_II_87 (by decide) ?_
              exact hg_lret hx hb hr hlocks hK hAe G (by have e9 : f_M_cast_II S x1 x2 = ((v4.toUInt32 % 65536).toInt32).toInt64 := (by have qe4 := e4.symm; subst qe4; exact (Eq.trans (if_neg c1) (Eq.trans (if_neg c2) (Eq.trans (if_neg c3) (Eq.trans (if_neg c5) (Eq.trans (if_neg c6) (if_pos c7))))))); exact ⟨Eq.symm e9, rfl⟩) d_M_cast_II_93
          · refine lv_iload_n hx hb d_M_cast_II_73 rfl (lv_at hl 0 rfl) ?_
            refine lv_i2s hx hb d_M_cast_II_74 rfl ?_
            refine lv_i2l hx hb d_M_cast_II_75 rfl ?_
            refine lv_goto (tgt := 93) hx hb d_M_cast_II_76 (by decide) ?_
            exact hg_lret hx hb hr hlocks hK hAe G (by have e9 : f_M_cast_II S x1 x2 = (v4.toInt16.toInt32).toInt64 := (by have qe4 := e4.symm; subst qe4; exact (Eq.trans (if_neg c1) (Eq.trans (if_neg c2) (Eq.trans (if_neg c3) (Eq.trans (if_neg c5) (if_pos c6)))))); exact ⟨Eq.symm e9, rfl⟩) d_M_cast_II_93
        · refine lv_iload_n hx hb d_M_cast_II_63 rfl (lv_at hl 0 rfl) ?_
          refine lv_i2l hx hb d_M_cast_II_64 rfl ?_
          refine lv_goto (tgt := 93) hx hb d_M_cast_II_65 (by decide) ?_
          exact hg_lret hx hb hr hlocks hK hAe G (by have e9 : f_M_cast_II S x1 x2 = v4.toInt64 := (by have qe4 := e4.symm; subst qe4; exact (Eq.trans (if_neg c1) (Eq.trans (if_neg c2) (Eq.trans (if_neg c3) (if_pos c5))))); exact ⟨Eq.symm e9, rfl⟩) d_M_cast_II_93
      · refine lv_aload_n hx hb d_M_cast_II_26 rfl (lv_at hl 0 rfl) ?_
        refine va_get (D := (dC, dI)) (ci := 3) (v := .ref (ad 14)) (C := R_M) (T := F_M) (N := 21) hx hb hts (fun w h => gm (i_M w h)) hown hK G.1 0 rfl rfl 20 (by decide) (hts _ (gm tw_441)) (fun _ h9 => h9) rfl d_M_cast_II_27 ?_
        refine lv_iload_n hx hb d_M_cast_II_30 rfl (lv_at hl 1 rfl) ?_
        refine va_lald hx hb hK G.1 14 0 rfl rfl (in_in c1 (by decide) (by decide)) d_M_cast_II_31 ?_
        refine lv_ldc2 (v := (-9223372036854775808 : Int64)) hx hb hown (hts _ (gm tw_675)) d_M_cast_II_32 ?_
        refine lv_ldc2 (v := (9223372036854775807 : Int64)) hx hb hown (hts _ (gm tw_681)) d_M_cast_II_35 ?_
        refine pu_l (As := [.long (m_store S x1.toNatClampNeg), .long (-9223372036854775808 : Int64), .long (9223372036854775807 : Int64)]) (rest := []) ⟨hx, hb, hml, hown, hts⟩ (c_M_cutTo_JJJ l _ t0 t1 t2 (m_store S x1.toNatClampNeg) (-9223372036854775808 : Int64) (9223372036854775807 : Int64)) (pr_pre (hx_R hRT G)) (gw_call (k := 3) hts tw_682 tw_683 tw_4 tw_684 (by decide +kernel) rfl rfl ⟨Nat.le_of_ble_eq_true rfl, Nat.le_of_ble_eq_true rfl⟩) rfl hl.1 rfl (Nat.le_of_ble_eq_true rfl) ⟨Nat.zero_le _, Nat.zero_le _⟩ d_M_cast_II_38 ?_
        exact hg_lret hx hb hr hlocks hK hAe G (by have e9 : f_M_cast_II S x1 x2 = f_M_cutTo_JJJ (m_store S x1.toNatClampNeg) (-9223372036854775808 : Int64) (9223372036854775807 : Int64) := (by exact (Eq.trans (if_neg c1) (Eq.trans (if_neg c2) (if_pos c3)))); exact ⟨Eq.symm e9, rfl⟩) d_M_cast_II_41
    · refine lv_ldc2 (v := (4611686018427387904 : Int64)) hx hb hown (hts _ (gm tw_630)) d_M_cast_II_17 ?_
      exact hg_lret hx hb hr hlocks hK hAe G (by have e9 : f_M_cast_II S x1 x2 = (4611686018427387904 : Int64) := (by exact (Eq.trans (if_neg c1) (if_pos c2))); exact ⟨Eq.symm e9, rfl⟩) d_M_cast_II_20
-- ===== MotionLabModel.compare(II)I 
abbrev y_M_compare_II : MethodName := ⟨"MotionLabModel", "compare", "(II)I"⟩
abbrev b_M_compare_II : ByteArray := prog_6_method_55_code
theorem d_M_compare_II_0 : decode b_M_compare_II 0 = .ok (.iload_n 1, 1) := by decide +kernel
theorem d_M_compare_II_1 : decode b_M_compare_II 1 = .ok (.bipush 8, 2) := by decide +kernel
theorem d_M_compare_II_3 : decode b_M_compare_II 3 = .ok (.invokestatic 190, 3) := by decide +kernel
theorem d_M_compare_II_6 : decode b_M_compare_II 6 = .ok (.ifCond .eq 12, 3) := by decide +kernel
theorem d_M_compare_II_9 : decode b_M_compare_II 9 = .ok (.iload_n 2, 1) := by decide +kernel
theorem d_M_compare_II_10 : decode b_M_compare_II 10 = .ok (.bipush 8, 2) := by decide +kernel
theorem d_M_compare_II_12 : decode b_M_compare_II 12 = .ok (.invokestatic 190, 3) := by decide +kernel
theorem d_M_compare_II_15 : decode b_M_compare_II 15 = .ok (.ifCond .ne 5, 3) := by decide +kernel
theorem d_M_compare_II_18 : decode b_M_compare_II 18 = .ok (.iconst (-1), 1) := by decide +kernel
theorem d_M_compare_II_19 : decode b_M_compare_II 19 = .ok (.ireturn, 1) := by decide +kernel
theorem d_M_compare_II_20 : decode b_M_compare_II 20 = .ok (.aload_n 0, 1) := by decide +kernel
theorem d_M_compare_II_21 : decode b_M_compare_II 21 = .ok (.getfield 187, 3) := by decide +kernel
theorem d_M_compare_II_24 : decode b_M_compare_II 24 = .ok (.iload_n 1, 1) := by decide +kernel
theorem d_M_compare_II_25 : decode b_M_compare_II 25 = .ok (.laload, 1) := by decide +kernel
theorem d_M_compare_II_26 : decode b_M_compare_II 26 = .ok (.aload_n 0, 1) := by decide +kernel
theorem d_M_compare_II_27 : decode b_M_compare_II 27 = .ok (.getfield 187, 3) := by decide +kernel
theorem d_M_compare_II_30 : decode b_M_compare_II 30 = .ok (.iload_n 2, 1) := by decide +kernel
theorem d_M_compare_II_31 : decode b_M_compare_II 31 = .ok (.laload, 1) := by decide +kernel
theorem d_M_compare_II_32 : decode b_M_compare_II 32 = .ok (.invokestatic 116, 3) := by decide +kernel
theorem d_M_compare_II_35 : decode b_M_compare_II 35 = .ok (.tableswitch 34 (-1) 1 #[25, 28, 31], 25) := by decide +kernel
theorem d_M_compare_II_60 : decode b_M_compare_II 60 = .ok (.bipush 11, 2) := by decide +kernel
theorem d_M_compare_II_62 : decode b_M_compare_II 62 = .ok (.ireturn, 1) := by decide +kernel
theorem d_M_compare_II_63 : decode b_M_compare_II 63 = .ok (.bipush 22, 2) := by decide +kernel
theorem d_M_compare_II_65 : decode b_M_compare_II 65 = .ok (.ireturn, 1) := by decide +kernel
theorem d_M_compare_II_66 : decode b_M_compare_II 66 = .ok (.bipush 56, 2) := by decide +kernel
theorem d_M_compare_II_68 : decode b_M_compare_II 68 = .ok (.ireturn, 1) := by decide +kernel
theorem d_M_compare_II_69 : decode b_M_compare_II 69 = .ok (.bipush 8, 2) := by decide +kernel
theorem d_M_compare_II_71 : decode b_M_compare_II 71 = .ok (.ireturn, 1) := by decide +kernel
def f_M_compare_II (S : MS) (x1 : Int32) (x2 : Int32) : Int32 :=
  if (f_M_in_II x1 (8 : Int32)) = 0 then
    (-1 : Int32)
  else
    if (f_M_in_II x2 (8 : Int32)) = 0 then
      (-1 : Int32)
    else
      if (f_M_order_JJ (m_store S x1.toNatClampNeg) (m_store S x2.toNatClampNeg)) = -1 then
        (11 : Int32)
      else
        if (f_M_order_JJ (m_store S x1.toNatClampNeg) (m_store S x2.toNatClampNeg)) = 0 then
          (22 : Int32)
        else
          if (f_M_order_JJ (m_store S x1.toNatClampNeg) (m_store S x2.toNatClampNeg)) = 1 then
            (56 : Int32)
          else
            (8 : Int32)
set_option maxHeartbeats 2000000 in
set_option maxRecDepth 100000 in
theorem c_M_compare_II (l : Launch) (dC : Nat → ClassId) (dI : Nat → Nat → Nat) (ad : Nat → Nat) (cJ cI : ClassId) (t0 t1 t2 : Nat) (S : MS) (x1 : Int32) (x2 : Int32) (sz : Nat) : hMi l y_M_compare_II (gw y_M_compare_II b_M_compare_II 3 (some .int)) { frames := 4, cells := 0, slots := 0, locals := 91 } [.ref (ad 0), .int x1, .int x2] (dC, dI) classes (tysJI cJ cI) (hE_M t0 t1 t2 (mW ad cJ cI S) sz) (mW ad cJ cI S) sz (f_M_compare_II S x1 x2) (mW ad cJ cI S) := by
  refine Met.ofW (cc := b_M_compare_II) (maxL := 3) (ret := (some .int)) (by decide) rfl ?_
  intro p e s m args below meth c s₁ B hml hv
  obtain ⟨rfl, hsz, hP, hK, hD0, hRT⟩ := hv
  have hx := B.exec
  have hb := B.bytes
  have hr := B.returns
  have hts := atoms_spec (ws := (gw y_M_compare_II b_M_compare_II 3 (some .int))) B.pre
  have hown : s.vm.findClass "MotionLabModel" = some m.cls := findClass_of_methodNamed B.named
  have hlocks := B.notSynchronized
  subst hsz
  have hD := hD0.self (sz := s.heap.size)
  have hRT : RTA t0 t1 t2 (va_A (mW ad cJ cI S) s.heap.size) s s.heap := hRT
  generalize hAe : va_A (mW ad cJ cI S) s.heap.size = A at hD hRT
  have hA : ∀ q : Nat, s.heap.size ≤ q → A q := fun q h => by rw [← hAe]; exact Or.inr h
  have G : hG (dC, dI) classes A s.heap (mW ad cJ cI S) s.heap [] := ⟨hP, hD, va_S.rf⟩
  have hl := lv_entry ([.ref (ad 0), .int x1, .int x2]) (n := 3) (Nat.le_of_ble_eq_true rfl)
  rw [lg_entry_eq]
  generalize (lg_sl ([.ref (ad 0), .int x1, .int x2]) ++ List.replicate (3 - (lg_sl ([.ref (ad 0), .int x1, .int x2])).length) Slot.unset).toArray = ls at hl ⊢
  have hl : lv_has ls 3 [(0, .ref (ad 0)), (1, .int x1), (2, .int x2)] := hl
  refine lv_iload_n hx hb d_M_compare_II_0 rfl (lv_at hl 1 rfl) ?_
  refine lv_bipush (v := (8 : Int32)) hx hb d_M_compare_II_1 (by decide) ?_
  refine pu_i (As := [.int x1, .int (8 : Int32)]) (rest := []) ⟨hx, hb, hml, hown, hts⟩ (c_M_in_II l _ x1 (8 : Int32)) pu_pre (gw_call (k := 2) hts tw_489 tw_490 tw_4 tw_491 (by decide +kernel) rfl rfl ⟨Nat.le_of_ble_eq_true rfl, Nat.le_of_ble_eq_true rfl⟩) rfl hl.1 rfl (Nat.le_of_ble_eq_true rfl) ⟨Nat.zero_le _, Nat.zero_le _⟩ d_M_compare_II_3 ?_
  refine lv_if_eq (tgt := 18) hx hb d_M_compare_II_6 (by decide) (fun c1 => ?_) (fun c1 => ?_)
  · refine lv_iconst (v := (-1)) hx hb d_M_compare_II_18 (by decide) ?_
    exact hg_iret hx hb hr hlocks hK hAe G (by have e9 : f_M_compare_II S x1 x2 = (-1 : Int32) := (by exact (if_pos c1)); exact ⟨Eq.symm e9, rfl⟩) d_M_compare_II_19
  · refine lv_iload_n hx hb d_M_compare_II_9 rfl (lv_at hl 2 rfl) ?_
    refine lv_bipush (v := (8 : Int32)) hx hb d_M_compare_II_10 (by decide) ?_
    refine pu_i (As := [.int x2, .int (8 : Int32)]) (rest := []) ⟨hx, hb, hml, hown, hts⟩ (c_M_in_II l _ x2 (8 : Int32)) pu_pre (gw_call (k := 2) hts tw_489 tw_490 tw_4 tw_491 (by decide +kernel) rfl rfl ⟨Nat.le_of_ble_eq_true rfl, Nat.le_of_ble_eq_true rfl⟩) rfl hl.1 rfl (Nat.le_of_ble_eq_true rfl) ⟨Nat.zero_le _, Nat.zero_le _⟩ d_M_compare_II_12 ?_
    refine lv_if_ne (tgt := 20) hx hb d_M_compare_II_15 (by decide) (fun c2 => ?_) (fun c2 => ?_)
    · refine lv_aload_n hx hb d_M_compare_II_20 rfl (lv_at hl 0 rfl) ?_
      refine va_get (D := (dC, dI)) (ci := 3) (v := .ref (ad 14)) (C := R_M) (T := F_M) (N := 21) hx hb hts (fun w h => gm (i_M w h)) hown hK G.1 0 rfl rfl 20 (by decide) (hts _ (gm tw_441)) (fun _ h9 => h9) rfl d_M_compare_II_21 ?_
      refine lv_iload_n hx hb d_M_compare_II_24 rfl (lv_at hl 1 rfl) ?_
      refine va_lald hx hb hK G.1 14 0 rfl rfl (in_in c1 (by decide) (by decide)) d_M_compare_II_25 ?_
      refine lv_aload_n hx hb d_M_compare_II_26 rfl (lv_at hl 0 rfl) ?_
      refine va_get (D := (dC, dI)) (ci := 3) (v := .ref (ad 14)) (C := R_M) (T := F_M) (N := 21) hx hb hts (fun w h => gm (i_M w h)) hown hK G.1 0 rfl rfl 20 (by decide) (hts _ (gm tw_441)) (fun _ h9 => h9) rfl d_M_compare_II_27 ?_
      refine lv_iload_n hx hb d_M_compare_II_30 rfl (lv_at hl 2 rfl) ?_
      refine va_lald hx hb hK G.1 14 0 rfl rfl (in_in c2 (by decide) (by decide)) d_M_compare_II_31 ?_
      refine pu_i (As := [.long (m_store S x1.toNatClampNeg), .long (m_store S x2.toNatClampNeg)]) (rest := []) ⟨hx, hb, hml, hown, hts⟩ (c_M_order_JJ l _ (m_store S x1.toNatClampNeg) (m_store S x2.toNatClampNeg)) pu_pre (gw_call (k := 2) hts tw_617 tw_618 tw_4 tw_619 (by decide +kernel) rfl rfl ⟨Nat.le_of_ble_eq_true rfl, Nat.le_of_ble_eq_true rfl⟩) rfl hl.1 rfl (Nat.le_of_ble_eq_true rfl) ⟨Nat.zero_le _, Nat.zero_le _⟩ d_M_compare_II_32 ?_
      by_cases c3 : (f_M_order_JJ (m_store S x1.toNatClampNeg) (m_store S x2.toNatClampNeg)) = -1
      · refine lv_tableIn (off := 25) (tgt := 60) hx hb d_M_compare_II_35 (by rw [c3]; decide) (by rw [c3]; decide) (by rw [c3]; rfl) (by decide) ?_
        refine lv_bipush (v := (11 : Int32)) hx hb d_M_compare_II_60 (by decide) ?_
        exact hg_iret hx hb hr hlocks hK hAe G (by have e9 : f_M_compare_II S x1 x2 = (11 : Int32) := (by exact (Eq.trans (if_neg c1) (Eq.trans (if_neg c2) (if_pos c3)))); exact ⟨Eq.symm e9, rfl⟩) d_M_compare_II_62
      · skip
        by_cases c4 : (f_M_order_JJ (m_store S x1.toNatClampNeg) (m_store S x2.toNatClampNeg)) = 0
        · refine lv_tableIn (off := 28) (tgt := 63) hx hb d_M_compare_II_35 (by rw [c4]; decide) (by rw [c4]; decide) (by rw [c4]; rfl) (by decide) ?_
          refine lv_bipush (v := (22 : Int32)) hx hb d_M_compare_II_63 (by decide) ?_
          exact hg_iret hx hb hr hlocks hK hAe G (by have e9 : f_M_compare_II S x1 x2 = (22 : Int32) := (by exact (Eq.trans (if_neg c1) (Eq.trans (if_neg c2) (Eq.trans (if_neg c3) (if_pos c4))))); exact ⟨Eq.symm e9, rfl⟩) d_M_compare_II_65
        · skip
          by_cases c5 : (f_M_order_JJ (m_store S x1.toNatClampNeg) (m_store S x2.toNatClampNeg)) = 1
          · refine lv_tableIn (off := 31) (tgt := 66) hx hb d_M_compare_II_35 (by rw [c5]; decide) (by rw [c5]; decide) (by rw [c5]; rfl) (by decide) ?_
            refine lv_bipush (v := (56 : Int32)) hx hb d_M_compare_II_66 (by decide) ?_
            exact hg_iret hx hb hr hlocks hK hAe G (by have e9 : f_M_compare_II S x1 x2 = (56 : Int32) := (by exact (Eq.trans (if_neg c1) (Eq.trans (if_neg c2) (Eq.trans (if_neg c3) (Eq.trans (if_neg c4) (if_pos c5)))))); exact ⟨Eq.symm e9, rfl⟩) d_M_compare_II_68
          · skip
            refine lv_tableOut (tgt := 69) hx hb d_M_compare_II_35 (sw_out (fun j h1 h2 e => by rcases (show j = -1 ∨ j = 0 ∨ j = 1 by omega) with rfl | rfl | rfl <;> first | exact c3 (Int32.toInt_inj.mp (e.trans (by decide))) | exact c4 (Int32.toInt_inj.mp (e.trans (by decide))) | exact c5 (Int32.toInt_inj.mp (e.trans (by decide))))) (by decide) ?_
            refine lv_bipush (v := (8 : Int32)) hx hb d_M_compare_II_69 (by decide) ?_
            exact hg_iret hx hb hr hlocks hK hAe G (by have e9 : f_M_compare_II S x1 x2 = (8 : Int32) := (by exact (Eq.trans (if_neg c1) (Eq.trans (if_neg c2) (Eq.trans (if_neg c3) (Eq.trans (if_neg c4) (if_neg c5)))))); exact ⟨Eq.symm e9, rfl⟩) d_M_compare_II_71
    · refine lv_iconst (v := (-1)) hx hb d_M_compare_II_18 (by decide) ?_
      exact hg_iret hx hb hr hlocks hK hAe G (by have e9 : f_M_compare_II S x1 x2 = (-1 : Int32) := (by exact (Eq.trans (if_neg c1) (if_pos c2))); exact ⟨Eq.symm e9, rfl⟩) d_M_compare_II_19
