-- ===== MotionLabModel.field(IJ)I 
abbrev y_M_field_IJ : MethodName := ⟨"MotionLabModel", "field", "(IJ)I"⟩
abbrev b_M_field_IJ : ByteArray := prog_6_method_34_code
theorem d_M_field_IJ_0 : decode b_M_field_IJ 0 = .ok (.iload_n 1, 1) := by decide +kernel
theorem d_M_field_IJ_1 : decode b_M_field_IJ 1 = .ok (.tableswitch 87 0 5 #[39, 46, 53, 60, 70, 77], 39) := by decide +kernel
theorem d_M_field_IJ_40 : decode b_M_field_IJ 40 = .ok (.aload_n 0, 1) := by decide +kernel
theorem d_M_field_IJ_41 : decode b_M_field_IJ 41 = .ok (.lload_n 2, 1) := by decide +kernel
theorem d_M_field_IJ_42 : decode b_M_field_IJ 42 = .ok (.putfield 198, 3) := by decide +kernel
theorem d_M_field_IJ_45 : decode b_M_field_IJ 45 = .ok (.iconst 0, 1) := by decide +kernel
theorem d_M_field_IJ_46 : decode b_M_field_IJ 46 = .ok (.ireturn, 1) := by decide +kernel
theorem d_M_field_IJ_47 : decode b_M_field_IJ 47 = .ok (.aload_n 0, 1) := by decide +kernel
theorem d_M_field_IJ_48 : decode b_M_field_IJ 48 = .ok (.lload_n 2, 1) := by decide +kernel
theorem d_M_field_IJ_49 : decode b_M_field_IJ 49 = .ok (.putfield 201, 3) := by decide +kernel
theorem d_M_field_IJ_52 : decode b_M_field_IJ 52 = .ok (.iconst 0, 1) := by decide +kernel
theorem d_M_field_IJ_53 : decode b_M_field_IJ 53 = .ok (.ireturn, 1) := by decide +kernel
theorem d_M_field_IJ_54 : decode b_M_field_IJ 54 = .ok (.aload_n 0, 1) := by decide +kernel
theorem d_M_field_IJ_55 : decode b_M_field_IJ 55 = .ok (.lload_n 2, 1) := by decide +kernel
theorem d_M_field_IJ_56 : decode b_M_field_IJ 56 = .ok (.putfield 204, 3) := by decide +kernel
theorem d_M_field_IJ_59 : decode b_M_field_IJ 59 = .ok (.iconst 0, 1) := by decide +kernel
theorem d_M_field_IJ_60 : decode b_M_field_IJ 60 = .ok (.ireturn, 1) := by decide +kernel
theorem d_M_field_IJ_61 : decode b_M_field_IJ 61 = .ok (.aload_n 0, 1) := by decide +kernel
theorem d_M_field_IJ_62 : decode b_M_field_IJ 62 = .ok (.lload_n 2, 1) := by decide +kernel
theorem d_M_field_IJ_63 : decode b_M_field_IJ 63 = .ok (.invokestatic 194, 3) := by decide +kernel
theorem d_M_field_IJ_66 : decode b_M_field_IJ 66 = .ok (.putfield 160, 3) := by decide +kernel
theorem d_M_field_IJ_69 : decode b_M_field_IJ 69 = .ok (.iconst 0, 1) := by decide +kernel
theorem d_M_field_IJ_70 : decode b_M_field_IJ 70 = .ok (.ireturn, 1) := by decide +kernel
theorem d_M_field_IJ_71 : decode b_M_field_IJ 71 = .ok (.aload_n 0, 1) := by decide +kernel
theorem d_M_field_IJ_72 : decode b_M_field_IJ 72 = .ok (.lload_n 2, 1) := by decide +kernel
theorem d_M_field_IJ_73 : decode b_M_field_IJ 73 = .ok (.putfield 164, 3) := by decide +kernel
theorem d_M_field_IJ_76 : decode b_M_field_IJ 76 = .ok (.iconst 0, 1) := by decide +kernel
theorem d_M_field_IJ_77 : decode b_M_field_IJ 77 = .ok (.ireturn, 1) := by decide +kernel
theorem d_M_field_IJ_78 : decode b_M_field_IJ 78 = .ok (.aload_n 0, 1) := by decide +kernel
theorem d_M_field_IJ_79 : decode b_M_field_IJ 79 = .ok (.lload_n 2, 1) := by decide +kernel
theorem d_M_field_IJ_80 : decode b_M_field_IJ 80 = .ok (.invokestatic 194, 3) := by decide +kernel
theorem d_M_field_IJ_83 : decode b_M_field_IJ 83 = .ok (.putfield 169, 3) := by decide +kernel
theorem d_M_field_IJ_86 : decode b_M_field_IJ 86 = .ok (.iconst 0, 1) := by decide +kernel
theorem d_M_field_IJ_87 : decode b_M_field_IJ 87 = .ok (.ireturn, 1) := by decide +kernel
theorem d_M_field_IJ_88 : decode b_M_field_IJ 88 = .ok (.iconst (-1), 1) := by decide +kernel
theorem d_M_field_IJ_89 : decode b_M_field_IJ 89 = .ok (.ireturn, 1) := by decide +kernel
def f_M_field_IJ (S : MS) (x1 : Int32) (x2 : Int64) : Int32 × MS :=
  if x1 = 0 then
    let S2 : MS := u_m_gx S x2
    ((0 : Int32), S2)
  else
    if x1 = 1 then
      let S4 : MS := u_m_gy S x2
      ((0 : Int32), S4)
    else
      if x1 = 2 then
        let S6 : MS := u_m_drag S x2
        ((0 : Int32), S6)
      else
        if x1 = 3 then
          let S8 : MS := u_m_dt S (f_M_toFloat_J x2)
          ((0 : Int32), S8)
        else
          if x1 = 4 then
            let S10 : MS := u_m_wall S x2
            ((0 : Int32), S10)
          else
            if x1 = 5 then
              let S12 : MS := u_m_back S (f_M_toFloat_J x2)
              ((0 : Int32), S12)
            else
              ((-1 : Int32), S)
set_option maxHeartbeats 2000000 in
set_option maxRecDepth 100000 in
theorem c_M_field_IJ (l : Launch) (dC : Nat → ClassId) (dI : Nat → Nat → Nat) (ad : Nat → Nat) (cJ cI : ClassId) (t0 t1 t2 : Nat) (S : MS) (x1 : Int32) (x2 : Int64) (sz : Nat) : hMi l y_M_field_IJ (gw y_M_field_IJ b_M_field_IJ 4 (some .int)) { frames := 6, cells := 0, slots := 0, locals := 145 } [.ref (ad 0), .int x1, .long x2] (dC, dI) classes (tysJI cJ cI) (hE_M t0 t1 t2 (mW ad cJ cI S) sz) (mW ad cJ cI S) sz (f_M_field_IJ S x1 x2).1 (mW ad cJ cI (f_M_field_IJ S x1 x2).2) := by
  refine Met.ofW (cc := b_M_field_IJ) (maxL := 4) (ret := (some .int)) (by decide) rfl ?_
  intro p e s m args below meth c s₁ B hml hv
  obtain ⟨rfl, hsz, hP, hK, hD0, hRT⟩ := hv
  have hx := B.exec
  have hb := B.bytes
  have hr := B.returns
  have hts := atoms_spec (ws := (gw y_M_field_IJ b_M_field_IJ 4 (some .int))) B.pre
  have hown : s.vm.findClass "MotionLabModel" = some m.cls := findClass_of_methodNamed B.named
  have hlocks := B.notSynchronized
  subst hsz
  have hD := hD0.self (sz := s.heap.size)
  have hRT : RTA t0 t1 t2 (va_A (mW ad cJ cI S) s.heap.size) s s.heap := hRT
  generalize hAe : va_A (mW ad cJ cI S) s.heap.size = A at hD hRT
  have hA : ∀ q : Nat, s.heap.size ≤ q → A q := fun q h => by rw [← hAe]; exact Or.inr h
  have G : hG (dC, dI) classes A s.heap (mW ad cJ cI S) s.heap [] := ⟨hP, hD, va_S.rf⟩
  have hl := lv_entry ([.ref (ad 0), .int x1, .long x2]) (n := 4) (Nat.le_of_ble_eq_true rfl)
  rw [lg_entry_eq]
  generalize (lg_sl ([.ref (ad 0), .int x1, .long x2]) ++ List.replicate (4 - (lg_sl ([.ref (ad 0), .int x1, .long x2])).length) Slot.unset).toArray = ls at hl ⊢
  have hl : lv_has ls 4 [(0, .ref (ad 0)), (1, .int x1), (2, .long x2)] := hl
  refine lv_iload_n hx hb d_M_field_IJ_0 rfl (lv_at hl 1 rfl) ?_
  by_cases c1 : x1 = 0
  · refine lv_tableIn (off := 39) (tgt := 40) hx hb d_M_field_IJ_1 (by rw [c1]; decide) (by rw [c1]; decide) (by rw [c1]; rfl) (by decide) ?_
    refine lv_aload_n hx hb d_M_field_IJ_40 rfl (lv_at hl 0 rfl) ?_
    refine lv_lload_n hx hb d_M_field_IJ_41 rfl (lv_at hl 2 rfl) ?_
    obtain ⟨S2, e2⟩ : ∃ z : MS, z = u_m_gx S x2 := ⟨_, rfl⟩
    refine hg_put (ci := 3) (ty := .long) (C := R_M) (T := F_M) (N := 21) hx hb hts (fun w h => gm (i_M w h)) t_M t_M_ok n_M hown hK G 0 rfl rfl 8 (by decide) (hts _ (gm tw_429)) rfl (by decide +kernel) rfl rfl (Nat.le_of_ble_eq_true rfl) d_M_field_IJ_42 (mW ad cJ cI S2) (by rw [e2]; rfl) (fun H locs G => ?_)
    refine lv_iconst (v := 0) hx hb d_M_field_IJ_45 (by decide) ?_
    exact hg_iret hx hb hr hlocks hK hAe G (by have qe2 := e2.symm; subst qe2; unfold f_M_field_IJ; rw [if_pos c1]; exact ⟨rfl, rfl⟩) d_M_field_IJ_46
  · skip
    by_cases c3 : x1 = 1
    · refine lv_tableIn (off := 46) (tgt := 47) hx hb d_M_field_IJ_1 (by rw [c3]; decide) (by rw [c3]; decide) (by rw [c3]; rfl) (by decide) ?_
      refine lv_aload_n hx hb d_M_field_IJ_47 rfl (lv_at hl 0 rfl) ?_
      refine lv_lload_n hx hb d_M_field_IJ_48 rfl (lv_at hl 2 rfl) ?_
      obtain ⟨S4, e4⟩ : ∃ z : MS, z = u_m_gy S x2 := ⟨_, rfl⟩
      refine hg_put (ci := 3) (ty := .long) (C := R_M) (T := F_M) (N := 21) hx hb hts (fun w h => gm (i_M w h)) t_M t_M_ok n_M hown hK G 0 rfl rfl 9 (by decide) (hts _ (gm tw_430)) rfl (by decide +kernel) rfl rfl (Nat.le_of_ble_eq_true rfl) d_M_field_IJ_49 (mW ad cJ cI S4) (by rw [e4]; rfl) (fun H locs G => ?_)
      refine lv_iconst (v := 0) hx hb d_M_field_IJ_52 (by decide) ?_
      exact hg_iret hx hb hr hlocks hK hAe G (by have qe4 := e4.symm; subst qe4; unfold f_M_field_IJ; rw [if_neg c1, if_pos c3]; exact ⟨rfl, rfl⟩) d_M_field_IJ_53
    · skip
      by_cases c5 : x1 = 2
      · refine lv_tableIn (off := 53) (tgt := 54) hx hb d_M_field_IJ_1 (by rw [c5]; decide) (by rw [c5]; decide) (by rw [c5]; rfl) (by decide) ?_
        refine lv_aload_n hx hb d_M_field_IJ_54 rfl (lv_at hl 0 rfl) ?_
        refine lv_lload_n hx hb d_M_field_IJ_55 rfl (lv_at hl 2 rfl) ?_
        obtain ⟨S6, e6⟩ : ∃ z : MS, z = u_m_drag S x2 := ⟨_, rfl⟩
        refine hg_put (ci := 3) (ty := .long) (C := R_M) (T := F_M) (N := 21) hx hb hts (fun w h => gm (i_M w h)) t_M t_M_ok n_M hown hK G 0 rfl rfl 10 (by decide) (hts _ (gm tw_431)) rfl (by decide +kernel) rfl rfl (Nat.le_of_ble_eq_true rfl) d_M_field_IJ_56 (mW ad cJ cI S6) (by rw [e6]; rfl) (fun H locs G => ?_)
        refine lv_iconst (v := 0) hx hb d_M_field_IJ_59 (by decide) ?_
        exact hg_iret hx hb hr hlocks hK hAe G (by have qe6 := e6.symm; subst qe6; unfold f_M_field_IJ; rw [if_neg c1, if_neg c3, if_pos c5]; exact ⟨rfl, rfl⟩) d_M_field_IJ_60
      · skip
        by_cases c7 : x1 = 3
        · refine lv_tableIn (off := 60) (tgt := 61) hx hb d_M_field_IJ_1 (by rw [c7]; decide) (by rw [c7]; decide) (by rw [c7]; rfl) (by decide) ?_
          refine lv_aload_n hx hb d_M_field_IJ_61 rfl (lv_at hl 0 rfl) ?_
          refine lv_lload_n hx hb d_M_field_IJ_62 rfl (lv_at hl 2 rfl) ?_
          refine pu_l (As := [.long x2]) (rest := [.ref (ad 0)]) ⟨hx, hb, hml, hown, hts⟩ (c_M_toFloat_J l _ t0 t1 t2 x2) (pr_pre (hx_R hRT G)) (gw_call (k := 1) hts tw_492 tw_493 tw_4 tw_494 (by decide +kernel) rfl rfl ⟨Nat.le_of_ble_eq_true rfl, Nat.le_of_ble_eq_true rfl⟩) rfl hl.1 rfl (Nat.le_of_ble_eq_true rfl) ⟨Nat.zero_le _, Nat.zero_le _⟩ d_M_field_IJ_63 ?_
          obtain ⟨S8, e8⟩ : ∃ z : MS, z = u_m_dt S (f_M_toFloat_J x2) := ⟨_, rfl⟩
          refine hg_put (ci := 3) (ty := .long) (C := R_M) (T := F_M) (N := 21) hx hb hts (fun w h => gm (i_M w h)) t_M t_M_ok n_M hown hK G 0 rfl rfl 11 (by decide) (hts _ (gm tw_432)) rfl (by decide +kernel) rfl rfl (Nat.le_of_ble_eq_true rfl) d_M_field_IJ_66 (mW ad cJ cI S8) (by rw [e8]; rfl) (fun H locs G => ?_)
          refine lv_iconst (v := 0) hx hb d_M_field_IJ_69 (by decide) ?_
          exact hg_iret hx hb hr hlocks hK hAe G (by have qe8 := e8.symm; subst qe8; unfold f_M_field_IJ; rw [if_neg c1, if_neg c3, if_neg c5, if_pos c7]; exact ⟨rfl, rfl⟩) d_M_field_IJ_70
        · skip
          by_cases c9 : x1 = 4
          · refine lv_tableIn (off := 70) (tgt := 71) hx hb d_M_field_IJ_1 (by rw [c9]; decide) (by rw [c9]; decide) (by rw [c9]; rfl) (by decide) ?_
            refine lv_aload_n hx hb d_M_field_IJ_71 rfl (lv_at hl 0 rfl) ?_
            refine lv_lload_n hx hb d_M_field_IJ_72 rfl (lv_at hl 2 rfl) ?_
            obtain ⟨S10, e10⟩ : ∃ z : MS, z = u_m_wall S x2 := ⟨_, rfl⟩
            refine hg_put (ci := 3) (ty := .long) (C := R_M) (T := F_M) (N := 21) hx hb hts (fun w h => gm (i_M w h)) t_M t_M_ok n_M hown hK G 0 rfl rfl 12 (by decide) (hts _ (gm tw_433)) rfl (by decide +kernel) rfl rfl (Nat.le_of_ble_eq_true rfl) d_M_field_IJ_73 (mW ad cJ cI S10) (by rw [e10]; rfl) (fun H locs G => ?_)
            refine lv_iconst (v := 0) hx hb d_M_field_IJ_76 (by decide) ?_
            exact hg_iret hx hb hr hlocks hK hAe G (by have qe10 := e10.symm; subst qe10; unfold f_M_field_IJ; rw [if_neg c1, if_neg c3, if_neg c5, if_neg c7, if_pos c9]; exact ⟨rfl, rfl⟩) d_M_field_IJ_77
          · skip
            by_cases c11 : x1 = 5
            · refine lv_tableIn (off := 77) (tgt := 78) hx hb d_M_field_IJ_1 (by rw [c11]; decide) (by rw [c11]; decide) (by rw [c11]; rfl) (by decide) ?_
              refine lv_aload_n hx hb d_M_field_IJ_78 rfl (lv_at hl 0 rfl) ?_
              refine lv_lload_n hx hb d_M_field_IJ_79 rfl (lv_at hl 2 rfl) ?_
              refine pu_l (As := [.long x2]) (rest := [.ref (ad 0)]) ⟨hx, hb, hml, hown, hts⟩ (c_M_toFloat_J l _ t0 t1 t2 x2) (pr_pre (hx_R hRT G)) (gw_call (k := 1) hts tw_492 tw_493 tw_4 tw_494 (by decide +kernel) rfl rfl ⟨Nat.le_of_ble_eq_true rfl, Nat.le_of_ble_eq_true rfl⟩) rfl hl.1 rfl (Nat.le_of_ble_eq_true rfl) ⟨Nat.zero_le _, Nat.zero_le _⟩ d_M_field_IJ_80 ?_
              obtain ⟨S12, e12⟩ : ∃ z : MS, z = u_m_back S (f_M_toFloat_J x2) := ⟨_, rfl⟩
              refine hg_put (ci := 3) (ty := .long) (C := R_M) (T := F_M) (N := 21) hx hb hts (fun w h => gm (i_M w h)) t_M t_M_ok n_M hown hK G 0 rfl rfl 13 (by decide) (hts _ (gm tw_434)) rfl (by decide +kernel) rfl rfl (Nat.le_of_ble_eq_true rfl) d_M_field_IJ_83 (mW ad cJ cI S12) (by rw [e12]; rfl) (fun H locs G => ?_)
              refine lv_iconst (v := 0) hx hb d_M_field_IJ_86 (by decide) ?_
              exact hg_iret hx hb hr hlocks hK hAe G (by have qe12 := e12.symm; subst qe12; unfold f_M_field_IJ; rw [if_neg c1, if_neg c3, if_neg c5, if_neg c7, if_neg c9, if_pos c11]; exact ⟨rfl, rfl⟩) d_M_field_IJ_87
            · skip
              refine lv_tableOut (tgt := 88) hx hb d_M_field_IJ_1 (sw_out (fun j h1 h2 e => by rcases (show j = 0 ∨ j = 1 ∨ j = 2 ∨ j = 3 ∨ j = 4 ∨ j = 5 by omega) with rfl | rfl | rfl | rfl | rfl | rfl <;> first | exact c1 (Int32.toInt_inj.mp (e.trans (by decide))) | exact c3 (Int32.toInt_inj.mp (e.trans (by decide))) | exact c5 (Int32.toInt_inj.mp (e.trans (by decide))) | exact c7 (Int32.toInt_inj.mp (e.trans (by decide))) | exact c9 (Int32.toInt_inj.mp (e.trans (by decide))) | exact c11 (Int32.toInt_inj.mp (e.trans (by decide))))) (by decide) ?_
              refine lv_iconst (v := (-1)) hx hb d_M_field_IJ_88 (by decide) ?_
              exact hg_iret hx hb hr hlocks hK hAe G (by unfold f_M_field_IJ; rw [if_neg c1, if_neg c3, if_neg c5, if_neg c7, if_neg c9, if_neg c11]; exact ⟨rfl, rfl⟩) d_M_field_IJ_89
-- ===== MotionLabModel.spring(IIIII)I 
abbrev y_M_spring_IIIII : MethodName := ⟨"MotionLabModel", "spring", "(IIIII)I"⟩
abbrev b_M_spring_IIIII : ByteArray := prog_6_method_36_code
theorem d_M_spring_IIIII_0 : decode b_M_spring_IIIII 0 = .ok (.iload_n 1, 1) := by decide +kernel
theorem d_M_spring_IIIII_1 : decode b_M_spring_IIIII 1 = .ok (.bipush 8, 2) := by decide +kernel
theorem d_M_spring_IIIII_3 : decode b_M_spring_IIIII 3 = .ok (.invokestatic 190, 3) := by decide +kernel
theorem d_M_spring_IIIII_6 : decode b_M_spring_IIIII 6 = .ok (.ifCond .eq 17, 3) := by decide +kernel
theorem d_M_spring_IIIII_9 : decode b_M_spring_IIIII 9 = .ok (.iload_n 2, 1) := by decide +kernel
theorem d_M_spring_IIIII_10 : decode b_M_spring_IIIII 10 = .ok (.bipush 8, 2) := by decide +kernel
theorem d_M_spring_IIIII_12 : decode b_M_spring_IIIII 12 = .ok (.invokestatic 190, 3) := by decide +kernel
theorem d_M_spring_IIIII_15 : decode b_M_spring_IIIII 15 = .ok (.ifCond .eq 8, 3) := by decide +kernel
theorem d_M_spring_IIIII_18 : decode b_M_spring_IIIII 18 = .ok (.iload_n 1, 1) := by decide +kernel
theorem d_M_spring_IIIII_19 : decode b_M_spring_IIIII 19 = .ok (.iload_n 2, 1) := by decide +kernel
theorem d_M_spring_IIIII_20 : decode b_M_spring_IIIII 20 = .ok (.if_icmp .ne 5, 3) := by decide +kernel
theorem d_M_spring_IIIII_23 : decode b_M_spring_IIIII 23 = .ok (.iconst (-1), 1) := by decide +kernel
theorem d_M_spring_IIIII_24 : decode b_M_spring_IIIII 24 = .ok (.ireturn, 1) := by decide +kernel
theorem d_M_spring_IIIII_25 : decode b_M_spring_IIIII 25 = .ok (.aload_n 0, 1) := by decide +kernel
theorem d_M_spring_IIIII_26 : decode b_M_spring_IIIII 26 = .ok (.getfield 209, 3) := by decide +kernel
theorem d_M_spring_IIIII_29 : decode b_M_spring_IIIII 29 = .ok (.bipush 10, 2) := by decide +kernel
theorem d_M_spring_IIIII_31 : decode b_M_spring_IIIII 31 = .ok (.if_icmp .ne 6, 3) := by decide +kernel
theorem d_M_spring_IIIII_34 : decode b_M_spring_IIIII 34 = .ok (.bipush (-3), 2) := by decide +kernel
theorem d_M_spring_IIIII_36 : decode b_M_spring_IIIII 36 = .ok (.ireturn, 1) := by decide +kernel
theorem d_M_spring_IIIII_37 : decode b_M_spring_IIIII 37 = .ok (.aload_n 0, 1) := by decide +kernel
theorem d_M_spring_IIIII_38 : decode b_M_spring_IIIII 38 = .ok (.getfield 172, 3) := by decide +kernel
theorem d_M_spring_IIIII_41 : decode b_M_spring_IIIII 41 = .ok (.aload_n 0, 1) := by decide +kernel
theorem d_M_spring_IIIII_42 : decode b_M_spring_IIIII 42 = .ok (.getfield 209, 3) := by decide +kernel
theorem d_M_spring_IIIII_45 : decode b_M_spring_IIIII 45 = .ok (.iload_n 1, 1) := by decide +kernel
theorem d_M_spring_IIIII_46 : decode b_M_spring_IIIII 46 = .ok (.iastore, 1) := by decide +kernel
theorem d_M_spring_IIIII_47 : decode b_M_spring_IIIII 47 = .ok (.aload_n 0, 1) := by decide +kernel
theorem d_M_spring_IIIII_48 : decode b_M_spring_IIIII 48 = .ok (.getfield 175, 3) := by decide +kernel
theorem d_M_spring_IIIII_51 : decode b_M_spring_IIIII 51 = .ok (.aload_n 0, 1) := by decide +kernel
theorem d_M_spring_IIIII_52 : decode b_M_spring_IIIII 52 = .ok (.getfield 209, 3) := by decide +kernel
theorem d_M_spring_IIIII_55 : decode b_M_spring_IIIII 55 = .ok (.iload_n 2, 1) := by decide +kernel
theorem d_M_spring_IIIII_56 : decode b_M_spring_IIIII 56 = .ok (.iastore, 1) := by decide +kernel
theorem d_M_spring_IIIII_57 : decode b_M_spring_IIIII 57 = .ok (.aload_n 0, 1) := by decide +kernel
theorem d_M_spring_IIIII_58 : decode b_M_spring_IIIII 58 = .ok (.getfield 178, 3) := by decide +kernel
theorem d_M_spring_IIIII_61 : decode b_M_spring_IIIII 61 = .ok (.aload_n 0, 1) := by decide +kernel
theorem d_M_spring_IIIII_62 : decode b_M_spring_IIIII 62 = .ok (.getfield 209, 3) := by decide +kernel
theorem d_M_spring_IIIII_65 : decode b_M_spring_IIIII 65 = .ok (.iload_n 3, 1) := by decide +kernel
theorem d_M_spring_IIIII_66 : decode b_M_spring_IIIII 66 = .ok (.invokestatic 213, 3) := by decide +kernel
theorem d_M_spring_IIIII_69 : decode b_M_spring_IIIII 69 = .ok (.lastore, 1) := by decide +kernel
theorem d_M_spring_IIIII_70 : decode b_M_spring_IIIII 70 = .ok (.aload_n 0, 1) := by decide +kernel
theorem d_M_spring_IIIII_71 : decode b_M_spring_IIIII 71 = .ok (.getfield 181, 3) := by decide +kernel
theorem d_M_spring_IIIII_74 : decode b_M_spring_IIIII 74 = .ok (.aload_n 0, 1) := by decide +kernel
theorem d_M_spring_IIIII_75 : decode b_M_spring_IIIII 75 = .ok (.getfield 209, 3) := by decide +kernel
theorem d_M_spring_IIIII_78 : decode b_M_spring_IIIII 78 = .ok (.iload 4, 2) := by decide +kernel
theorem d_M_spring_IIIII_80 : decode b_M_spring_IIIII 80 = .ok (.invokestatic 213, 3) := by decide +kernel
theorem d_M_spring_IIIII_83 : decode b_M_spring_IIIII 83 = .ok (.lastore, 1) := by decide +kernel
theorem d_M_spring_IIIII_84 : decode b_M_spring_IIIII 84 = .ok (.aload_n 0, 1) := by decide +kernel
theorem d_M_spring_IIIII_85 : decode b_M_spring_IIIII 85 = .ok (.getfield 184, 3) := by decide +kernel
theorem d_M_spring_IIIII_88 : decode b_M_spring_IIIII 88 = .ok (.aload_n 0, 1) := by decide +kernel
theorem d_M_spring_IIIII_89 : decode b_M_spring_IIIII 89 = .ok (.getfield 209, 3) := by decide +kernel
theorem d_M_spring_IIIII_92 : decode b_M_spring_IIIII 92 = .ok (.iload 5, 2) := by decide +kernel
theorem d_M_spring_IIIII_94 : decode b_M_spring_IIIII 94 = .ok (.invokestatic 213, 3) := by decide +kernel
theorem d_M_spring_IIIII_97 : decode b_M_spring_IIIII 97 = .ok (.lastore, 1) := by decide +kernel
theorem d_M_spring_IIIII_98 : decode b_M_spring_IIIII 98 = .ok (.aload_n 0, 1) := by decide +kernel
theorem d_M_spring_IIIII_99 : decode b_M_spring_IIIII 99 = .ok (.dup, 1) := by decide +kernel
theorem d_M_spring_IIIII_100 : decode b_M_spring_IIIII 100 = .ok (.getfield 209, 3) := by decide +kernel
theorem d_M_spring_IIIII_103 : decode b_M_spring_IIIII 103 = .ok (.iconst 1, 1) := by decide +kernel
theorem d_M_spring_IIIII_104 : decode b_M_spring_IIIII 104 = .ok (.iadd, 1) := by decide +kernel
theorem d_M_spring_IIIII_105 : decode b_M_spring_IIIII 105 = .ok (.putfield 209, 3) := by decide +kernel
theorem d_M_spring_IIIII_108 : decode b_M_spring_IIIII 108 = .ok (.aload_n 0, 1) := by decide +kernel
theorem d_M_spring_IIIII_109 : decode b_M_spring_IIIII 109 = .ok (.getfield 209, 3) := by decide +kernel
theorem d_M_spring_IIIII_112 : decode b_M_spring_IIIII 112 = .ok (.iconst 1, 1) := by decide +kernel
theorem d_M_spring_IIIII_113 : decode b_M_spring_IIIII 113 = .ok (.isub, 1) := by decide +kernel
theorem d_M_spring_IIIII_114 : decode b_M_spring_IIIII 114 = .ok (.ireturn, 1) := by decide +kernel
def f_M_spring_IIIII (S : MS) (x1 : Int32) (x2 : Int32) (x3 : Int32) (x4 : Int32) (x5 : Int32) : Int32 × MS :=
  if (f_M_in_II x1 (8 : Int32)) = 0 then
    ((-1 : Int32), S)
  else
    if (f_M_in_II x2 (8 : Int32)) = 0 then
      ((-1 : Int32), S)
    else
      if x1 = x2 then
        ((-1 : Int32), S)
      else
        if (m_springs S) = (10 : Int32) then
          ((-3 : Int32), S)
        else
          let S5 : MS := u_m_left S (upd (m_left S) (m_springs S).toNatClampNeg x1)
          let S6 : MS := u_m_right S5 (upd (m_right S5) (m_springs S5).toNatClampNeg x2)
          let S7 : MS := u_m_k S6 (vp_updL (m_k S6) (m_springs S6).toNatClampNeg (f_M_floatOf_I x3))
          let S8 : MS := u_m_l S7 (vp_updL (m_l S7) (m_springs S7).toNatClampNeg (f_M_floatOf_I x4))
          let S9 : MS := u_m_c S8 (vp_updL (m_c S8) (m_springs S8).toNatClampNeg (f_M_floatOf_I x5))
          let S10 : MS := u_m_springs S9 ((m_springs S9) + (1 : Int32))
          ((m_springs S10) - (1 : Int32), S10)
set_option maxHeartbeats 2000000 in
set_option maxRecDepth 100000 in
theorem c_M_spring_IIIII (l : Launch) (dC : Nat → ClassId) (dI : Nat → Nat → Nat) (ad : Nat → Nat) (cJ cI : ClassId) (t0 t1 t2 : Nat) (S : MS) (x1 : Int32) (x2 : Int32) (x3 : Int32) (x4 : Int32) (x5 : Int32) (hC : m_springs S = 10 ∨ vp_in (m_springs S) 10) (sz : Nat) : hMi l y_M_spring_IIIII (gw y_M_spring_IIIII b_M_spring_IIIII 6 (some .int)) { frames := 1, cells := 0, slots := 0, locals := 21 } [.ref (ad 0), .int x1, .int x2, .int x3, .int x4, .int x5] (dC, dI) classes (tysJI cJ cI) (hE_M t0 t1 t2 (mW ad cJ cI S) sz) (mW ad cJ cI S) sz (f_M_spring_IIIII S x1 x2 x3 x4 x5).1 (mW ad cJ cI (f_M_spring_IIIII S x1 x2 x3 x4 x5).2) := by
  refine Met.ofW (cc := b_M_spring_IIIII) (maxL := 6) (ret := (some .int)) (by decide) rfl ?_
  intro p e s m args below meth c s₁ B hml hv
  obtain ⟨rfl, hsz, hP, hK, hD0, hRT⟩ := hv
  have hx := B.exec
  have hb := B.bytes
  have hr := B.returns
  have hts := atoms_spec (ws := (gw y_M_spring_IIIII b_M_spring_IIIII 6 (some .int))) B.pre
  have hown : s.vm.findClass "MotionLabModel" = some m.cls := findClass_of_methodNamed B.named
  have hlocks := B.notSynchronized
  subst hsz
  have hD := hD0.self (sz := s.heap.size)
  have hRT : RTA t0 t1 t2 (va_A (mW ad cJ cI S) s.heap.size) s s.heap := hRT
  generalize hAe : va_A (mW ad cJ cI S) s.heap.size = A at hD hRT
  have hA : ∀ q : Nat, s.heap.size ≤ q → A q := fun q h => by rw [← hAe]; exact Or.inr h
  have G : hG (dC, dI) classes A s.heap (mW ad cJ cI S) s.heap [] := ⟨hP, hD, va_S.rf⟩
  have hl := lv_entry ([.ref (ad 0), .int x1, .int x2, .int x3, .int x4, .int x5]) (n := 6) (Nat.le_of_ble_eq_true rfl)
  rw [lg_entry_eq]
  generalize (lg_sl ([.ref (ad 0), .int x1, .int x2, .int x3, .int x4, .int x5]) ++ List.replicate (6 - (lg_sl ([.ref (ad 0), .int x1, .int x2, .int x3, .int x4, .int x5])).length) Slot.unset).toArray = ls at hl ⊢
  have hl : lv_has ls 6 [(0, .ref (ad 0)), (1, .int x1), (2, .int x2), (3, .int x3), (4, .int x4), (5, .int x5)] := hl
  refine lv_iload_n hx hb d_M_spring_IIIII_0 rfl (lv_at hl 1 rfl) ?_
  refine lv_bipush (v := (8 : Int32)) hx hb d_M_spring_IIIII_1 (by decide) ?_
  refine pu_i (As := [.int x1, .int (8 : Int32)]) (rest := []) ⟨hx, hb, hml, hown, hts⟩ (c_M_in_II l _ x1 (8 : Int32)) pu_pre (gw_call (k := 2) hts tw_489 tw_490 tw_4 tw_491 (by decide +kernel) rfl rfl ⟨Nat.le_of_ble_eq_true rfl, Nat.le_of_ble_eq_true rfl⟩) rfl hl.1 rfl (Nat.le_of_ble_eq_true rfl) ⟨Nat.zero_le _, Nat.zero_le _⟩ d_M_spring_IIIII_3 ?_
  refine lv_if_eq (tgt := 23) hx hb d_M_spring_IIIII_6 (by decide) (fun c1 => ?_) (fun c1 => ?_)
  · refine lv_iconst (v := (-1)) hx hb d_M_spring_IIIII_23 (by decide) ?_
    exact hg_iret hx hb hr hlocks hK hAe G (by unfold f_M_spring_IIIII; rw [if_pos c1]; exact ⟨rfl, rfl⟩) d_M_spring_IIIII_24
  · refine lv_iload_n hx hb d_M_spring_IIIII_9 rfl (lv_at hl 2 rfl) ?_
    refine lv_bipush (v := (8 : Int32)) hx hb d_M_spring_IIIII_10 (by decide) ?_
    refine pu_i (As := [.int x2, .int (8 : Int32)]) (rest := []) ⟨hx, hb, hml, hown, hts⟩ (c_M_in_II l _ x2 (8 : Int32)) pu_pre (gw_call (k := 2) hts tw_489 tw_490 tw_4 tw_491 (by decide +kernel) rfl rfl ⟨Nat.le_of_ble_eq_true rfl, Nat.le_of_ble_eq_true rfl⟩) rfl hl.1 rfl (Nat.le_of_ble_eq_true rfl) ⟨Nat.zero_le _, Nat.zero_le _⟩ d_M_spring_IIIII_12 ?_
    refine lv_if_eq (tgt := 23) hx hb d_M_spring_IIIII_15 (by decide) (fun c2 => ?_) (fun c2 => ?_)
    · refine lv_iconst (v := (-1)) hx hb d_M_spring_IIIII_23 (by decide) ?_
      exact hg_iret hx hb hr hlocks hK hAe G (by unfold f_M_spring_IIIII; rw [if_neg c1, if_pos c2]; exact ⟨rfl, rfl⟩) d_M_spring_IIIII_24
    · refine lv_iload_n hx hb d_M_spring_IIIII_18 rfl (lv_at hl 1 rfl) ?_
      refine lv_iload_n hx hb d_M_spring_IIIII_19 rfl (lv_at hl 2 rfl) ?_
      refine lv_icmp_ne (tgt := 25) hx hb d_M_spring_IIIII_20 (by decide) (fun c3 => ?_) (fun c3 => ?_)
      · refine lv_aload_n hx hb d_M_spring_IIIII_25 rfl (lv_at hl 0 rfl) ?_
        refine va_get (D := (dC, dI)) (ci := 3) (v := .int (m_springs S)) (C := R_M) (T := F_M) (N := 21) hx hb hts (fun w h => gm (i_M w h)) hown hK G.1 0 rfl rfl 19 (by decide) (hts _ (gm tw_440)) (fun _ h9 => h9) rfl d_M_spring_IIIII_26 ?_
        refine lv_bipush (v := (10 : Int32)) hx hb d_M_spring_IIIII_29 (by decide) ?_
        refine lv_icmp_ne (tgt := 37) hx hb d_M_spring_IIIII_31 (by decide) (fun c4 => ?_) (fun c4 => ?_)
        · refine lv_aload_n hx hb d_M_spring_IIIII_37 rfl (lv_at hl 0 rfl) ?_
          refine va_get (D := (dC, dI)) (ci := 3) (v := .ref (ad 9)) (C := R_M) (T := F_M) (N := 21) hx hb hts (fun w h => gm (i_M w h)) hown hK G.1 0 rfl rfl 14 (by decide) (hts _ (gm tw_435)) (fun _ h9 => h9) rfl d_M_spring_IIIII_38 ?_
          refine lv_aload_n hx hb d_M_spring_IIIII_41 rfl (lv_at hl 0 rfl) ?_
          refine va_get (D := (dC, dI)) (ci := 3) (v := .int (m_springs S)) (C := R_M) (T := F_M) (N := 21) hx hb hts (fun w h => gm (i_M w h)) hown hK G.1 0 rfl rfl 19 (by decide) (hts _ (gm tw_440)) (fun _ h9 => h9) rfl d_M_spring_IIIII_42 ?_
          refine lv_iload_n hx hb d_M_spring_IIIII_45 rfl (lv_at hl 1 rfl) ?_
          obtain ⟨S5, e5⟩ : ∃ z : MS, z = u_m_left S (upd (m_left S) (m_springs S).toNatClampNeg x1) := ⟨_, rfl⟩
          refine hg_iast hx hb hK G 9 1 rfl rfl (by exact hC.resolve_left c4) d_M_spring_IIIII_46 (mW ad cJ cI S5) (by rw [e5]; rfl) (fun H locs G => ?_)
          refine lv_aload_n hx hb d_M_spring_IIIII_47 rfl (lv_at hl 0 rfl) ?_
          refine va_get (D := (dC, dI)) (ci := 3) (v := .ref (ad 10)) (C := R_M) (T := F_M) (N := 21) hx hb hts (fun w h => gm (i_M w h)) hown hK G.1 0 rfl rfl 15 (by decide) (hts _ (gm tw_436)) (fun _ h9 => h9) rfl d_M_spring_IIIII_48 ?_
          refine lv_aload_n hx hb d_M_spring_IIIII_51 rfl (lv_at hl 0 rfl) ?_
          refine va_get (D := (dC, dI)) (ci := 3) (v := .int (m_springs S5)) (C := R_M) (T := F_M) (N := 21) hx hb hts (fun w h => gm (i_M w h)) hown hK G.1 0 rfl rfl 19 (by decide) (hts _ (gm tw_440)) (fun _ h9 => h9) rfl d_M_spring_IIIII_52 ?_
          refine lv_iload_n hx hb d_M_spring_IIIII_55 rfl (lv_at hl 2 rfl) ?_
          obtain ⟨S6, e6⟩ : ∃ z : MS, z = u_m_right S5 (upd (m_right S5) (m_springs S5).toNatClampNeg x2) := ⟨_, rfl⟩
          refine hg_iast hx hb hK G 10 1 rfl rfl (by have qe5 := e5.symm; subst qe5; exact hC.resolve_left c4) d_M_spring_IIIII_56 (mW ad cJ cI S6) (by rw [e6]; rfl) (fun H locs G => ?_)
          refine lv_aload_n hx hb d_M_spring_IIIII_57 rfl (lv_at hl 0 rfl) ?_
          refine va_get (D := (dC, dI)) (ci := 3) (v := .ref (ad 11)) (C := R_M) (T := F_M) (N := 21) hx hb hts (fun w h => gm (i_M w h)) hown hK G.1 0 rfl rfl 16 (by decide) (hts _ (gm tw_437)) (fun _ h9 => h9) rfl d_M_spring_IIIII_58 ?_
          refine lv_aload_n hx hb d_M_spring_IIIII_61 rfl (lv_at hl 0 rfl) ?_
          refine va_get (D := (dC, dI)) (ci := 3) (v := .int (m_springs S6)) (C := R_M) (T := F_M) (N := 21) hx hb hts (fun w h => gm (i_M w h)) hown hK G.1 0 rfl rfl 19 (by decide) (hts _ (gm tw_440)) (fun _ h9 => h9) rfl d_M_spring_IIIII_62 ?_
          refine lv_iload_n hx hb d_M_spring_IIIII_65 rfl (lv_at hl 3 rfl) ?_
          refine pu_l (As := [.int x3]) (rest := [.int (m_springs S6), .ref (ad 11)]) ⟨hx, hb, hml, hown, hts⟩ (c_M_floatOf_I l _ x3) pu_pre (gw_call (k := 1) hts tw_554 tw_555 tw_4 tw_556 (by decide +kernel) rfl rfl ⟨Nat.le_of_ble_eq_true rfl, Nat.le_of_ble_eq_true rfl⟩) rfl hl.1 rfl (Nat.le_of_ble_eq_true rfl) ⟨Nat.zero_le _, Nat.zero_le _⟩ d_M_spring_IIIII_66 ?_
          obtain ⟨S7, e7⟩ : ∃ z : MS, z = u_m_k S6 (vp_updL (m_k S6) (m_springs S6).toNatClampNeg (f_M_floatOf_I x3)) := ⟨_, rfl⟩
          refine hg_last hx hb hK G 11 0 rfl rfl (by have qe5 := e5.symm; have qe6 := e6.symm; subst qe5 qe6; exact hC.resolve_left c4) d_M_spring_IIIII_69 (mW ad cJ cI S7) (by rw [e7]; rfl) (fun H locs G => ?_)
          refine lv_aload_n hx hb d_M_spring_IIIII_70 rfl (lv_at hl 0 rfl) ?_
          refine va_get (D := (dC, dI)) (ci := 3) (v := .ref (ad 12)) (C := R_M) (T := F_M) (N := 21) hx hb hts (fun w h => gm (i_M w h)) hown hK G.1 0 rfl rfl 17 (by decide) (hts _ (gm tw_438)) (fun _ h9 => h9) rfl d_M_spring_IIIII_71 ?_
          refine lv_aload_n hx hb d_M_spring_IIIII_74 rfl (lv_at hl 0 rfl) ?_
          refine va_get (D := (dC, dI)) (ci := 3) (v := .int (m_springs S7)) (C := R_M) (T := F_M) (N := 21) hx hb hts (fun w h => gm (i_M w h)) hown hK G.1 0 rfl rfl 19 (by decide) (hts _ (gm tw_440)) (fun _ h9 => h9) rfl d_M_spring_IIIII_75 ?_
          refine lv_iload hx hb d_M_spring_IIIII_78 (lv_at hl 4 rfl) ?_
          refine pu_l (As := [.int x4]) (rest := [.int (m_springs S7), .ref (ad 12)]) ⟨hx, hb, hml, hown, hts⟩ (c_M_floatOf_I l _ x4) pu_pre (gw_call (k := 1) hts tw_554 tw_555 tw_4 tw_556 (by decide +kernel) rfl rfl ⟨Nat.le_of_ble_eq_true rfl, Nat.le_of_ble_eq_true rfl⟩) rfl hl.1 rfl (Nat.le_of_ble_eq_true rfl) ⟨Nat.zero_le _, Nat.zero_le _⟩ d_M_spring_IIIII_80 ?_
          obtain ⟨S8, e8⟩ : ∃ z : MS, z = u_m_l S7 (vp_updL (m_l S7) (m_springs S7).toNatClampNeg (f_M_floatOf_I x4)) := ⟨_, rfl⟩
          refine hg_last hx hb hK G 12 0 rfl rfl (by have qe5 := e5.symm; have qe6 := e6.symm; have qe7 := e7.symm; subst qe5 qe6 qe7; exact hC.resolve_left c4) d_M_spring_IIIII_83 (mW ad cJ cI S8) (by rw [e8]; rfl) (fun H locs G => ?_)
          refine lv_aload_n hx hb d_M_spring_IIIII_84 rfl (lv_at hl 0 rfl) ?_
          refine va_get (D := (dC, dI)) (ci := 3) (v := .ref (ad 13)) (C := R_M) (T := F_M) (N := 21) hx hb hts (fun w h => gm (i_M w h)) hown hK G.1 0 rfl rfl 18 (by decide) (hts _ (gm tw_439)) (fun _ h9 => h9) rfl d_M_spring_IIIII_85 ?_
          refine lv_aload_n hx hb d_M_spring_IIIII_88 rfl (lv_at hl 0 rfl) ?_
          refine va_get (D := (dC, dI)) (ci := 3) (v := .int (m_springs S8)) (C := R_M) (T := F_M) (N := 21) hx hb hts (fun w h => gm (i_M w h)) hown hK G.1 0 rfl rfl 19 (by decide) (hts _ (gm tw_440)) (fun _ h9 => h9) rfl d_M_spring_IIIII_89 ?_
          refine lv_iload hx hb d_M_spring_IIIII_92 (lv_at hl 5 rfl) ?_
          refine pu_l (As := [.int x5]) (rest := [.int (m_springs S8), .ref (ad 13)]) ⟨hx, hb, hml, hown, hts⟩ (c_M_floatOf_I l _ x5) pu_pre (gw_call (k := 1) hts tw_554 tw_555 tw_4 tw_556 (by decide +kernel) rfl rfl ⟨Nat.le_of_ble_eq_true rfl, Nat.le_of_ble_eq_true rfl⟩) rfl hl.1 rfl (Nat.le_of_ble_eq_true rfl) ⟨Nat.zero_le _, Nat.zero_le _⟩ d_M_spring_IIIII_94 ?_
          obtain ⟨S9, e9⟩ : ∃ z : MS, z = u_m_c S8 (vp_updL (m_c S8) (m_springs S8).toNatClampNeg (f_M_floatOf_I x5)) := ⟨_, rfl⟩
          refine hg_last hx hb hK G 13 0 rfl rfl (by have qe5 := e5.symm; have qe6 := e6.symm; have qe7 := e7.symm; have qe8 := e8.symm; subst qe5 qe6 qe7 qe8; exact hC.resolve_left c4) d_M_spring_IIIII_97 (mW ad cJ cI S9) (by rw [e9]; rfl) (fun H locs G => ?_)
          refine lv_aload_n hx hb d_M_spring_IIIII_98 rfl (lv_at hl 0 rfl) ?_
          refine lv_dup hx hb d_M_spring_IIIII_99 rfl ?_
          refine va_get (D := (dC, dI)) (ci := 3) (v := .int (m_springs S9)) (C := R_M) (T := F_M) (N := 21) hx hb hts (fun w h => gm (i_M w h)) hown hK G.1 0 rfl rfl 19 (by decide) (hts _ (gm tw_440)) (fun _ h9 => h9) rfl d_M_spring_IIIII_100 ?_
          refine lv_iconst (v := 1) hx hb d_M_spring_IIIII_103 (by decide) ?_
          refine lv_iadd hx hb d_M_spring_IIIII_104 ?_
          obtain ⟨S10, e10⟩ : ∃ z : MS, z = u_m_springs S9 ((m_springs S9) + (1 : Int32)) := ⟨_, rfl⟩
          refine hg_put (ci := 3) (ty := .int) (C := R_M) (T := F_M) (N := 21) hx hb hts (fun w h => gm (i_M w h)) t_M t_M_ok n_M hown hK G 0 rfl rfl 19 (by decide) (hts _ (gm tw_440)) rfl (by decide +kernel) rfl rfl (Nat.le_of_ble_eq_true rfl) d_M_spring_IIIII_105 (mW ad cJ cI S10) (by rw [e10]; rfl) (fun H locs G => ?_)
          refine lv_aload_n hx hb d_M_spring_IIIII_108 rfl (lv_at hl 0 rfl) ?_
          refine va_get (D := (dC, dI)) (ci := 3) (v := .int (m_springs S10)) (C := R_M) (T := F_M) (N := 21) hx hb hts (fun w h => gm (i_M w h)) hown hK G.1 0 rfl rfl 19 (by decide) (hts _ (gm tw_440)) (fun _ h9 => h9) rfl d_M_spring_IIIII_109 ?_
          refine lv_iconst (v := 1) hx hb d_M_spring_IIIII_112 (by decide) ?_
          refine lv_isub hx hb d_M_spring_IIIII_113 ?_
          exact hg_iret hx hb hr hlocks hK hAe G (by have qe5 := e5.symm; have qe6 := e6.symm; have qe7 := e7.symm; have qe8 := e8.symm; have qe9 := e9.symm; have qe10 := e10.symm; subst qe5 qe6 qe7 qe8 qe9 qe10; unfold f_M_spring_IIIII; rw [if_neg c1, if_neg c2, if_neg c3, if_neg c4]; exact ⟨rfl, rfl⟩) d_M_spring_IIIII_114
        · refine lv_bipush (v := (-3 : Int32)) hx hb d_M_spring_IIIII_34 (by decide) ?_
          exact hg_iret hx hb hr hlocks hK hAe G (by unfold f_M_spring_IIIII; rw [if_neg c1, if_neg c2, if_neg c3, if_pos c4]; exact ⟨rfl, rfl⟩) d_M_spring_IIIII_36
      · refine lv_iconst (v := (-1)) hx hb d_M_spring_IIIII_23 (by decide) ?_
        exact hg_iret hx hb hr hlocks hK hAe G (by unfold f_M_spring_IIIII; rw [if_neg c1, if_neg c2, if_pos c3]; exact ⟨rfl, rfl⟩) d_M_spring_IIIII_24
-- ===== MotionLabModel.cut()I 
abbrev y_M_cut : MethodName := ⟨"MotionLabModel", "cut", "()I"⟩
abbrev b_M_cut : ByteArray := prog_6_method_37_code
theorem d_M_cut_0 : decode b_M_cut 0 = .ok (.aload_n 0, 1) := by decide +kernel
theorem d_M_cut_1 : decode b_M_cut 1 = .ok (.getfield 209, 3) := by decide +kernel
theorem d_M_cut_4 : decode b_M_cut 4 = .ok (.ifCond .ne 6, 3) := by decide +kernel
theorem d_M_cut_7 : decode b_M_cut 7 = .ok (.bipush (-2), 2) := by decide +kernel
theorem d_M_cut_9 : decode b_M_cut 9 = .ok (.ireturn, 1) := by decide +kernel
theorem d_M_cut_10 : decode b_M_cut 10 = .ok (.aload_n 0, 1) := by decide +kernel
theorem d_M_cut_11 : decode b_M_cut 11 = .ok (.dup, 1) := by decide +kernel
theorem d_M_cut_12 : decode b_M_cut 12 = .ok (.getfield 209, 3) := by decide +kernel
theorem d_M_cut_15 : decode b_M_cut 15 = .ok (.iconst 1, 1) := by decide +kernel
theorem d_M_cut_16 : decode b_M_cut 16 = .ok (.isub, 1) := by decide +kernel
theorem d_M_cut_17 : decode b_M_cut 17 = .ok (.putfield 209, 3) := by decide +kernel
theorem d_M_cut_20 : decode b_M_cut 20 = .ok (.aload_n 0, 1) := by decide +kernel
theorem d_M_cut_21 : decode b_M_cut 21 = .ok (.getfield 209, 3) := by decide +kernel
theorem d_M_cut_24 : decode b_M_cut 24 = .ok (.ireturn, 1) := by decide +kernel
def f_M_cut (S : MS) : Int32 × MS :=
  if (m_springs S) = 0 then
    ((-2 : Int32), S)
  else
    let S2 : MS := u_m_springs S ((m_springs S) - (1 : Int32))
    ((m_springs S2), S2)
set_option maxHeartbeats 2000000 in
set_option maxRecDepth 100000 in
theorem c_M_cut (l : Launch) (dC : Nat → ClassId) (dI : Nat → Nat → Nat) (ad : Nat → Nat) (cJ cI : ClassId) (t0 t1 t2 : Nat) (S : MS)  (sz : Nat) : hMi l y_M_cut (gw y_M_cut b_M_cut 1 (some .int)) { frames := 0, cells := 0, slots := 0, locals := 0 } [.ref (ad 0)] (dC, dI) classes (tysJI cJ cI) (hE_M t0 t1 t2 (mW ad cJ cI S) sz) (mW ad cJ cI S) sz (f_M_cut S).1 (mW ad cJ cI (f_M_cut S).2) := by
  refine Met.ofW (cc := b_M_cut) (maxL := 1) (ret := (some .int)) (by decide) rfl ?_
  intro p e s m args below meth c s₁ B hml hv
  obtain ⟨rfl, hsz, hP, hK, hD0, hRT⟩ := hv
  have hx := B.exec
  have hb := B.bytes
  have hr := B.returns
  have hts := atoms_spec (ws := (gw y_M_cut b_M_cut 1 (some .int))) B.pre
  have hown : s.vm.findClass "MotionLabModel" = some m.cls := findClass_of_methodNamed B.named
  have hlocks := B.notSynchronized
  subst hsz
  have hD := hD0.self (sz := s.heap.size)
  have hRT : RTA t0 t1 t2 (va_A (mW ad cJ cI S) s.heap.size) s s.heap := hRT
  generalize hAe : va_A (mW ad cJ cI S) s.heap.size = A at hD hRT
  have hA : ∀ q : Nat, s.heap.size ≤ q → A q := fun q h => by rw [← hAe]; exact Or.inr h
  have G : hG (dC, dI) classes A s.heap (mW ad cJ cI S) s.heap [] := ⟨hP, hD, va_S.rf⟩
  have hl := lv_entry ([.ref (ad 0)]) (n := 1) (Nat.le_of_ble_eq_true rfl)
  rw [lg_entry_eq]
  generalize (lg_sl ([.ref (ad 0)]) ++ List.replicate (1 - (lg_sl ([.ref (ad 0)])).length) Slot.unset).toArray = ls at hl ⊢
  have hl : lv_has ls 1 [(0, .ref (ad 0))] := hl
  refine lv_aload_n hx hb d_M_cut_0 rfl (lv_at hl 0 rfl) ?_
  refine va_get (D := (dC, dI)) (ci := 3) (v := .int (m_springs S)) (C := R_M) (T := F_M) (N := 21) hx hb hts (fun w h => gm (i_M w h)) hown hK G.1 0 rfl rfl 19 (by decide) (hts _ (gm tw_440)) (fun _ h9 => h9) rfl d_M_cut_1 ?_
  refine lv_if_ne (tgt := 10) hx hb d_M_cut_4 (by decide) (fun c1 => ?_) (fun c1 => ?_)
  · refine lv_aload_n hx hb d_M_cut_10 rfl (lv_at hl 0 rfl) ?_
    refine lv_dup hx hb d_M_cut_11 rfl ?_
    refine va_get (D := (dC, dI)) (ci := 3) (v := .int (m_springs S)) (C := R_M) (T := F_M) (N := 21) hx hb hts (fun w h => gm (i_M w h)) hown hK G.1 0 rfl rfl 19 (by decide) (hts _ (gm tw_440)) (fun _ h9 => h9) rfl d_M_cut_12 ?_
    refine lv_iconst (v := 1) hx hb d_M_cut_15 (by decide) ?_
    refine lv_isub hx hb d_M_cut_16 ?_
    obtain ⟨S2, e2⟩ : ∃ z : MS, z = u_m_springs S ((m_springs S) - (1 : Int32)) := ⟨_, rfl⟩
    refine hg_put (ci := 3) (ty := .int) (C := R_M) (T := F_M) (N := 21) hx hb hts (fun w h => gm (i_M w h)) t_M t_M_ok n_M hown hK G 0 rfl rfl 19 (by decide) (hts _ (gm tw_440)) rfl (by decide +kernel) rfl rfl (Nat.le_of_ble_eq_true rfl) d_M_cut_17 (mW ad cJ cI S2) (by rw [e2]; rfl) (fun H locs G => ?_)
    refine lv_aload_n hx hb d_M_cut_20 rfl (lv_at hl 0 rfl) ?_
    refine va_get (D := (dC, dI)) (ci := 3) (v := .int (m_springs S2)) (C := R_M) (T := F_M) (N := 21) hx hb hts (fun w h => gm (i_M w h)) hown hK G.1 0 rfl rfl 19 (by decide) (hts _ (gm tw_440)) (fun _ h9 => h9) rfl d_M_cut_21 ?_
    exact hg_iret hx hb hr hlocks hK hAe G (by have qe2 := e2.symm; subst qe2; unfold f_M_cut; rw [if_neg c1]; exact ⟨rfl, rfl⟩) d_M_cut_24
  · refine lv_bipush (v := (-2 : Int32)) hx hb d_M_cut_7 (by decide) ?_
    exact hg_iret hx hb hr hlocks hK hAe G (by unfold f_M_cut; rw [if_pos c1]; exact ⟨rfl, rfl⟩) d_M_cut_9
-- ===== MotionLabModel.distance(I)J 
abbrev y_M_distance_I : MethodName := ⟨"MotionLabModel", "distance", "(I)J"⟩
abbrev b_M_distance_I : ByteArray := prog_6_method_39_code
theorem d_M_distance_I_0 : decode b_M_distance_I 0 = .ok (.aload_n 0, 1) := by decide +kernel
theorem d_M_distance_I_1 : decode b_M_distance_I 1 = .ok (.getfield 133, 3) := by decide +kernel
theorem d_M_distance_I_4 : decode b_M_distance_I 4 = .ok (.aload_n 0, 1) := by decide +kernel
theorem d_M_distance_I_5 : decode b_M_distance_I 5 = .ok (.getfield 175, 3) := by decide +kernel
theorem d_M_distance_I_8 : decode b_M_distance_I 8 = .ok (.iload_n 1, 1) := by decide +kernel
theorem d_M_distance_I_9 : decode b_M_distance_I 9 = .ok (.iaload, 1) := by decide +kernel
theorem d_M_distance_I_10 : decode b_M_distance_I 10 = .ok (.laload, 1) := by decide +kernel
theorem d_M_distance_I_11 : decode b_M_distance_I 11 = .ok (.aload_n 0, 1) := by decide +kernel
theorem d_M_distance_I_12 : decode b_M_distance_I 12 = .ok (.getfield 133, 3) := by decide +kernel
theorem d_M_distance_I_15 : decode b_M_distance_I 15 = .ok (.aload_n 0, 1) := by decide +kernel
theorem d_M_distance_I_16 : decode b_M_distance_I 16 = .ok (.getfield 172, 3) := by decide +kernel
theorem d_M_distance_I_19 : decode b_M_distance_I 19 = .ok (.iload_n 1, 1) := by decide +kernel
theorem d_M_distance_I_20 : decode b_M_distance_I 20 = .ok (.iaload, 1) := by decide +kernel
theorem d_M_distance_I_21 : decode b_M_distance_I 21 = .ok (.laload, 1) := by decide +kernel
theorem d_M_distance_I_22 : decode b_M_distance_I 22 = .ok (.invokestatic 218, 3) := by decide +kernel
theorem d_M_distance_I_25 : decode b_M_distance_I 25 = .ok (.aload_n 0, 1) := by decide +kernel
theorem d_M_distance_I_26 : decode b_M_distance_I 26 = .ok (.getfield 137, 3) := by decide +kernel
theorem d_M_distance_I_29 : decode b_M_distance_I 29 = .ok (.aload_n 0, 1) := by decide +kernel
theorem d_M_distance_I_30 : decode b_M_distance_I 30 = .ok (.getfield 175, 3) := by decide +kernel
theorem d_M_distance_I_33 : decode b_M_distance_I 33 = .ok (.iload_n 1, 1) := by decide +kernel
theorem d_M_distance_I_34 : decode b_M_distance_I 34 = .ok (.iaload, 1) := by decide +kernel
theorem d_M_distance_I_35 : decode b_M_distance_I 35 = .ok (.laload, 1) := by decide +kernel
theorem d_M_distance_I_36 : decode b_M_distance_I 36 = .ok (.aload_n 0, 1) := by decide +kernel
theorem d_M_distance_I_37 : decode b_M_distance_I 37 = .ok (.getfield 137, 3) := by decide +kernel
theorem d_M_distance_I_40 : decode b_M_distance_I 40 = .ok (.aload_n 0, 1) := by decide +kernel
theorem d_M_distance_I_41 : decode b_M_distance_I 41 = .ok (.getfield 172, 3) := by decide +kernel
theorem d_M_distance_I_44 : decode b_M_distance_I 44 = .ok (.iload_n 1, 1) := by decide +kernel
theorem d_M_distance_I_45 : decode b_M_distance_I 45 = .ok (.iaload, 1) := by decide +kernel
theorem d_M_distance_I_46 : decode b_M_distance_I 46 = .ok (.laload, 1) := by decide +kernel
theorem d_M_distance_I_47 : decode b_M_distance_I 47 = .ok (.invokestatic 218, 3) := by decide +kernel
theorem d_M_distance_I_50 : decode b_M_distance_I 50 = .ok (.invokestatic 220, 3) := by decide +kernel
theorem d_M_distance_I_53 : decode b_M_distance_I 53 = .ok (.invokestatic 223, 3) := by decide +kernel
theorem d_M_distance_I_56 : decode b_M_distance_I 56 = .ok (.lreturn, 1) := by decide +kernel
def f_M_distance_I (S : MS) (x1 : Int32) : Int64 :=
  f_M_root_J (f_M_square_JJ (f_M_subtract_JJ (m_x S (m_right S x1.toNatClampNeg).toNatClampNeg) (m_x S (m_left S x1.toNatClampNeg).toNatClampNeg)) (f_M_subtract_JJ (m_y S (m_right S x1.toNatClampNeg).toNatClampNeg) (m_y S (m_left S x1.toNatClampNeg).toNatClampNeg)))
set_option maxHeartbeats 2000000 in
set_option maxRecDepth 100000 in
theorem c_M_distance_I (l : Launch) (dC : Nat → ClassId) (dI : Nat → Nat → Nat) (ad : Nat → Nat) (cJ cI : ClassId) (t0 t1 t2 : Nat) (S : MS) (x1 : Int32) (hk_x1 : vp_in x1 10) (hb1 : vp_in (m_left S x1.toNatClampNeg) 8) (hb2 : vp_in (m_right S x1.toNatClampNeg) 8) (sz : Nat) : hMl l y_M_distance_I (gw y_M_distance_I b_M_distance_I 2 (some .long)) { frames := 7, cells := 0, slots := 0, locals := 191 } [.ref (ad 0), .int x1] (dC, dI) classes (tysJI cJ cI) (hE_M t0 t1 t2 (mW ad cJ cI S) sz) (mW ad cJ cI S) sz (f_M_distance_I S x1) (mW ad cJ cI S) := by
  refine Met.ofW (cc := b_M_distance_I) (maxL := 2) (ret := (some .long)) (by decide) rfl ?_
  intro p e s m args below meth c s₁ B hml hv
  obtain ⟨rfl, hsz, hP, hK, hD0, hRT⟩ := hv
  have hx := B.exec
  have hb := B.bytes
  have hr := B.returns
  have hts := atoms_spec (ws := (gw y_M_distance_I b_M_distance_I 2 (some .long))) B.pre
  have hown : s.vm.findClass "MotionLabModel" = some m.cls := findClass_of_methodNamed B.named
  have hlocks := B.notSynchronized
  subst hsz
  have hD := hD0.self (sz := s.heap.size)
  have hRT : RTA t0 t1 t2 (va_A (mW ad cJ cI S) s.heap.size) s s.heap := hRT
  generalize hAe : va_A (mW ad cJ cI S) s.heap.size = A at hD hRT
  have hA : ∀ q : Nat, s.heap.size ≤ q → A q := fun q h => by rw [← hAe]; exact Or.inr h
  have G : hG (dC, dI) classes A s.heap (mW ad cJ cI S) s.heap [] := ⟨hP, hD, va_S.rf⟩
  have hl := lv_entry ([.ref (ad 0), .int x1]) (n := 2) (Nat.le_of_ble_eq_true rfl)
  rw [lg_entry_eq]
  generalize (lg_sl ([.ref (ad 0), .int x1]) ++ List.replicate (2 - (lg_sl ([.ref (ad 0), .int x1])).length) Slot.unset).toArray = ls at hl ⊢
  have hl : lv_has ls 2 [(0, .ref (ad 0)), (1, .int x1)] := hl
  refine lv_aload_n hx hb d_M_distance_I_0 rfl (lv_at hl 0 rfl) ?_
  refine va_get (D := (dC, dI)) (ci := 3) (v := .ref (ad 1)) (C := R_M) (T := F_M) (N := 21) hx hb hts (fun w h => gm (i_M w h)) hown hK G.1 0 rfl rfl 0 (by decide) (hts _ (gm tw_421)) (fun _ h9 => h9) rfl d_M_distance_I_1 ?_
  refine lv_aload_n hx hb d_M_distance_I_4 rfl (lv_at hl 0 rfl) ?_
  refine va_get (D := (dC, dI)) (ci := 3) (v := .ref (ad 10)) (C := R_M) (T := F_M) (N := 21) hx hb hts (fun w h => gm (i_M w h)) hown hK G.1 0 rfl rfl 15 (by decide) (hts _ (gm tw_436)) (fun _ h9 => h9) rfl d_M_distance_I_5 ?_
  refine lv_iload_n hx hb d_M_distance_I_8 rfl (lv_at hl 1 rfl) ?_
  refine va_iald hx hb hK G.1 10 1 rfl rfl hk_x1 d_M_distance_I_9 ?_
  refine va_lald hx hb hK G.1 1 0 rfl rfl hb2 d_M_distance_I_10 ?_
  refine lv_aload_n hx hb d_M_distance_I_11 rfl (lv_at hl 0 rfl) ?_
  refine va_get (D := (dC, dI)) (ci := 3) (v := .ref (ad 1)) (C := R_M) (T := F_M) (N := 21) hx hb hts (fun w h => gm (i_M w h)) hown hK G.1 0 rfl rfl 0 (by decide) (hts _ (gm tw_421)) (fun _ h9 => h9) rfl d_M_distance_I_12 ?_
  refine lv_aload_n hx hb d_M_distance_I_15 rfl (lv_at hl 0 rfl) ?_
  refine va_get (D := (dC, dI)) (ci := 3) (v := .ref (ad 9)) (C := R_M) (T := F_M) (N := 21) hx hb hts (fun w h => gm (i_M w h)) hown hK G.1 0 rfl rfl 14 (by decide) (hts _ (gm tw_435)) (fun _ h9 => h9) rfl d_M_distance_I_16 ?_
  refine lv_iload_n hx hb d_M_distance_I_19 rfl (lv_at hl 1 rfl) ?_
  refine va_iald hx hb hK G.1 9 1 rfl rfl hk_x1 d_M_distance_I_20 ?_
  refine va_lald hx hb hK G.1 1 0 rfl rfl hb1 d_M_distance_I_21 ?_
  refine pu_l (As := [.long (m_x S (m_right S x1.toNatClampNeg).toNatClampNeg), .long (m_x S (m_left S x1.toNatClampNeg).toNatClampNeg)]) (rest := []) ⟨hx, hb, hml, hown, hts⟩ (c_M_subtract_JJ l _ t0 t1 t2 (m_x S (m_right S x1.toNatClampNeg).toNatClampNeg) (m_x S (m_left S x1.toNatClampNeg).toNatClampNeg)) (pr_pre (hx_R hRT G)) (gw_call (k := 2) hts tw_588 tw_589 tw_4 tw_590 (by decide +kernel) rfl rfl ⟨Nat.le_of_ble_eq_true rfl, Nat.le_of_ble_eq_true rfl⟩) rfl hl.1 rfl (Nat.le_of_ble_eq_true rfl) ⟨Nat.zero_le _, Nat.zero_le _⟩ d_M_distance_I_22 ?_
  refine lv_aload_n hx hb d_M_distance_I_25 rfl (lv_at hl 0 rfl) ?_
  refine va_get (D := (dC, dI)) (ci := 3) (v := .ref (ad 2)) (C := R_M) (T := F_M) (N := 21) hx hb hts (fun w h => gm (i_M w h)) hown hK G.1 0 rfl rfl 1 (by decide) (hts _ (gm tw_422)) (fun _ h9 => h9) rfl d_M_distance_I_26 ?_
  refine lv_aload_n hx hb d_M_distance_I_29 rfl (lv_at hl 0 rfl) ?_
  refine va_get (D := (dC, dI)) (ci := 3) (v := .ref (ad 10)) (C := R_M) (T := F_M) (N := 21) hx hb hts (fun w h => gm (i_M w h)) hown hK G.1 0 rfl rfl 15 (by decide) (hts _ (gm tw_436)) (fun _ h9 => h9) rfl d_M_distance_I_30 ?_
  refine lv_iload_n hx hb d_M_distance_I_33 rfl (lv_at hl 1 rfl) ?_
  refine va_iald hx hb hK G.1 10 1 rfl rfl hk_x1 d_M_distance_I_34 ?_
  refine va_lald hx hb hK G.1 2 0 rfl rfl hb2 d_M_distance_I_35 ?_
  refine lv_aload_n hx hb d_M_distance_I_36 rfl (lv_at hl 0 rfl) ?_
  refine va_get (D := (dC, dI)) (ci := 3) (v := .ref (ad 2)) (C := R_M) (T := F_M) (N := 21) hx hb hts (fun w h => gm (i_M w h)) hown hK G.1 0 rfl rfl 1 (by decide) (hts _ (gm tw_422)) (fun _ h9 => h9) rfl d_M_distance_I_37 ?_
  refine lv_aload_n hx hb d_M_distance_I_40 rfl (lv_at hl 0 rfl) ?_
  refine va_get (D := (dC, dI)) (ci := 3) (v := .ref (ad 9)) (C := R_M) (T := F_M) (N := 21) hx hb hts (fun w h => gm (i_M w h)) hown hK G.1 0 rfl rfl 14 (by decide) (hts _ (gm tw_435)) (fun _ h9 => h9) rfl d_M_distance_I_41 ?_
  refine lv_iload_n hx hb d_M_distance_I_44 rfl (lv_at hl 1 rfl) ?_
  refine va_iald hx hb hK G.1 9 1 rfl rfl hk_x1 d_M_distance_I_45 ?_
  refine va_lald hx hb hK G.1 2 0 rfl rfl hb1 d_M_distance_I_46 ?_
  refine pu_l (As := [.long (m_y S (m_right S x1.toNatClampNeg).toNatClampNeg), .long (m_y S (m_left S x1.toNatClampNeg).toNatClampNeg)]) (rest := [.long (f_M_subtract_JJ (m_x S (m_right S x1.toNatClampNeg).toNatClampNeg) (m_x S (m_left S x1.toNatClampNeg).toNatClampNeg))]) ⟨hx, hb, hml, hown, hts⟩ (c_M_subtract_JJ l _ t0 t1 t2 (m_y S (m_right S x1.toNatClampNeg).toNatClampNeg) (m_y S (m_left S x1.toNatClampNeg).toNatClampNeg)) (pr_pre (hx_R hRT G)) (gw_call (k := 2) hts tw_588 tw_589 tw_4 tw_590 (by decide +kernel) rfl rfl ⟨Nat.le_of_ble_eq_true rfl, Nat.le_of_ble_eq_true rfl⟩) rfl hl.1 rfl (Nat.le_of_ble_eq_true rfl) ⟨Nat.zero_le _, Nat.zero_le _⟩ d_M_distance_I_47 ?_
  refine pu_l (As := [.long (f_M_subtract_JJ (m_x S (m_right S x1.toNatClampNeg).toNatClampNeg) (m_x S (m_left S x1.toNatClampNeg).toNatClampNeg)), .long (f_M_subtract_JJ (m_y S (m_right S x1.toNatClampNeg).toNatClampNeg) (m_y S (m_left S x1.toNatClampNeg).toNatClampNeg))]) (rest := []) ⟨hx, hb, hml, hown, hts⟩ (c_M_square_JJ l _ t0 t1 t2 (f_M_subtract_JJ (m_x S (m_right S x1.toNatClampNeg).toNatClampNeg) (m_x S (m_left S x1.toNatClampNeg).toNatClampNeg)) (f_M_subtract_JJ (m_y S (m_right S x1.toNatClampNeg).toNatClampNeg) (m_y S (m_left S x1.toNatClampNeg).toNatClampNeg))) (pr_pre (hx_R hRT G)) (gw_call (k := 2) hts tw_608 tw_609 tw_4 tw_610 (by decide +kernel) rfl rfl ⟨Nat.le_of_ble_eq_true rfl, Nat.le_of_ble_eq_true rfl⟩) rfl hl.1 rfl (Nat.le_of_ble_eq_true rfl) ⟨Nat.zero_le _, Nat.zero_le _⟩ d_M_distance_I_50 ?_
  refine pu_l (As := [.long (f_M_square_JJ (f_M_subtract_JJ (m_x S (m_right S x1.toNatClampNeg).toNatClampNeg) (m_x S (m_left S x1.toNatClampNeg).toNatClampNeg)) (f_M_subtract_JJ (m_y S (m_right S x1.toNatClampNeg).toNatClampNeg) (m_y S (m_left S x1.toNatClampNeg).toNatClampNeg)))]) (rest := []) ⟨hx, hb, hml, hown, hts⟩ (c_M_root_J l _ t0 t1 t2 (f_M_square_JJ (f_M_subtract_JJ (m_x S (m_right S x1.toNatClampNeg).toNatClampNeg) (m_x S (m_left S x1.toNatClampNeg).toNatClampNeg)) (f_M_subtract_JJ (m_y S (m_right S x1.toNatClampNeg).toNatClampNeg) (m_y S (m_left S x1.toNatClampNeg).toNatClampNeg)))) (pr_pre (hx_R hRT G)) (gw_call (k := 1) hts tw_614 tw_615 tw_4 tw_616 (by decide +kernel) rfl rfl ⟨Nat.le_of_ble_eq_true rfl, Nat.le_of_ble_eq_true rfl⟩) rfl hl.1 rfl (Nat.le_of_ble_eq_true rfl) ⟨Nat.zero_le _, Nat.zero_le _⟩ d_M_distance_I_53 ?_
  exact hg_lret hx hb hr hlocks hK hAe G (by have e9 : f_M_distance_I S x1 = f_M_root_J (f_M_square_JJ (f_M_subtract_JJ (m_x S (m_right S x1.toNatClampNeg).toNatClampNeg) (m_x S (m_left S x1.toNatClampNeg).toNatClampNeg)) (f_M_subtract_JJ (m_y S (m_right S x1.toNatClampNeg).toNatClampNeg) (m_y S (m_left S x1.toNatClampNeg).toNatClampNeg))) := (by exact rfl); exact ⟨Eq.symm e9, rfl⟩) d_M_distance_I_56
