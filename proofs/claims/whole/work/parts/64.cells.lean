-- ===== MotionLab$Plane.move(I)V 
abbrev y_P_move_I : MethodName := ⟨"MotionLab$Plane", "move", "(I)V"⟩
abbrev b_P_move_I : ByteArray := prog_3_method_14_code
theorem d_P_move_I_0 : decode b_P_move_I 0 = .ok (.aload_n 0, 1) := by decide +kernel
theorem d_P_move_I_1 : decode b_P_move_I 1 = .ok (.getfield 9, 3) := by decide +kernel
theorem d_P_move_I_4 : decode b_P_move_I 4 = .ok (.bipush 16, 2) := by decide +kernel
theorem d_P_move_I_6 : decode b_P_move_I 6 = .ok (.iload_n 1, 1) := by decide +kernel
theorem d_P_move_I_7 : decode b_P_move_I 7 = .ok (.iadd, 1) := by decide +kernel
theorem d_P_move_I_8 : decode b_P_move_I 8 = .ok (.aload_n 0, 1) := by decide +kernel
theorem d_P_move_I_9 : decode b_P_move_I 9 = .ok (.aload_n 0, 1) := by decide +kernel
theorem d_P_move_I_10 : decode b_P_move_I 10 = .ok (.getfield 9, 3) := by decide +kernel
theorem d_P_move_I_13 : decode b_P_move_I 13 = .ok (.bipush 16, 2) := by decide +kernel
theorem d_P_move_I_15 : decode b_P_move_I 15 = .ok (.iload_n 1, 1) := by decide +kernel
theorem d_P_move_I_16 : decode b_P_move_I 16 = .ok (.iadd, 1) := by decide +kernel
theorem d_P_move_I_17 : decode b_P_move_I 17 = .ok (.laload, 1) := by decide +kernel
theorem d_P_move_I_18 : decode b_P_move_I 18 = .ok (.aload_n 0, 1) := by decide +kernel
theorem d_P_move_I_19 : decode b_P_move_I 19 = .ok (.getfield 9, 3) := by decide +kernel
theorem d_P_move_I_22 : decode b_P_move_I 22 = .ok (.bipush 48, 2) := by decide +kernel
theorem d_P_move_I_24 : decode b_P_move_I 24 = .ok (.iload_n 1, 1) := by decide +kernel
theorem d_P_move_I_25 : decode b_P_move_I 25 = .ok (.iadd, 1) := by decide +kernel
theorem d_P_move_I_26 : decode b_P_move_I 26 = .ok (.laload, 1) := by decide +kernel
theorem d_P_move_I_27 : decode b_P_move_I 27 = .ok (.aload_n 0, 1) := by decide +kernel
theorem d_P_move_I_28 : decode b_P_move_I 28 = .ok (.getfield 9, 3) := by decide +kernel
theorem d_P_move_I_31 : decode b_P_move_I 31 = .ok (.bipush 32, 2) := by decide +kernel
theorem d_P_move_I_33 : decode b_P_move_I 33 = .ok (.iload_n 1, 1) := by decide +kernel
theorem d_P_move_I_34 : decode b_P_move_I 34 = .ok (.iadd, 1) := by decide +kernel
theorem d_P_move_I_35 : decode b_P_move_I 35 = .ok (.laload, 1) := by decide +kernel
theorem d_P_move_I_36 : decode b_P_move_I 36 = .ok (.invokestatic 83, 3) := by decide +kernel
theorem d_P_move_I_39 : decode b_P_move_I 39 = .ok (.invokevirtual 116, 3) := by decide +kernel
theorem d_P_move_I_42 : decode b_P_move_I 42 = .ok (.lastore, 1) := by decide +kernel
theorem d_P_move_I_43 : decode b_P_move_I 43 = .ok (.aload_n 0, 1) := by decide +kernel
theorem d_P_move_I_44 : decode b_P_move_I 44 = .ok (.getfield 9, 3) := by decide +kernel
theorem d_P_move_I_47 : decode b_P_move_I 47 = .ok (.bipush 24, 2) := by decide +kernel
theorem d_P_move_I_49 : decode b_P_move_I 49 = .ok (.iload_n 1, 1) := by decide +kernel
theorem d_P_move_I_50 : decode b_P_move_I 50 = .ok (.iadd, 1) := by decide +kernel
theorem d_P_move_I_51 : decode b_P_move_I 51 = .ok (.aload_n 0, 1) := by decide +kernel
theorem d_P_move_I_52 : decode b_P_move_I 52 = .ok (.aload_n 0, 1) := by decide +kernel
theorem d_P_move_I_53 : decode b_P_move_I 53 = .ok (.getfield 9, 3) := by decide +kernel
theorem d_P_move_I_56 : decode b_P_move_I 56 = .ok (.bipush 24, 2) := by decide +kernel
theorem d_P_move_I_58 : decode b_P_move_I 58 = .ok (.iload_n 1, 1) := by decide +kernel
theorem d_P_move_I_59 : decode b_P_move_I 59 = .ok (.iadd, 1) := by decide +kernel
theorem d_P_move_I_60 : decode b_P_move_I 60 = .ok (.laload, 1) := by decide +kernel
theorem d_P_move_I_61 : decode b_P_move_I 61 = .ok (.aload_n 0, 1) := by decide +kernel
theorem d_P_move_I_62 : decode b_P_move_I 62 = .ok (.getfield 9, 3) := by decide +kernel
theorem d_P_move_I_65 : decode b_P_move_I 65 = .ok (.bipush 56, 2) := by decide +kernel
theorem d_P_move_I_67 : decode b_P_move_I 67 = .ok (.iload_n 1, 1) := by decide +kernel
theorem d_P_move_I_68 : decode b_P_move_I 68 = .ok (.iadd, 1) := by decide +kernel
theorem d_P_move_I_69 : decode b_P_move_I 69 = .ok (.laload, 1) := by decide +kernel
theorem d_P_move_I_70 : decode b_P_move_I 70 = .ok (.aload_n 0, 1) := by decide +kernel
theorem d_P_move_I_71 : decode b_P_move_I 71 = .ok (.getfield 9, 3) := by decide +kernel
theorem d_P_move_I_74 : decode b_P_move_I 74 = .ok (.bipush 32, 2) := by decide +kernel
theorem d_P_move_I_76 : decode b_P_move_I 76 = .ok (.iload_n 1, 1) := by decide +kernel
theorem d_P_move_I_77 : decode b_P_move_I 77 = .ok (.iadd, 1) := by decide +kernel
theorem d_P_move_I_78 : decode b_P_move_I 78 = .ok (.laload, 1) := by decide +kernel
theorem d_P_move_I_79 : decode b_P_move_I 79 = .ok (.invokestatic 83, 3) := by decide +kernel
theorem d_P_move_I_82 : decode b_P_move_I 82 = .ok (.invokevirtual 116, 3) := by decide +kernel
theorem d_P_move_I_85 : decode b_P_move_I 85 = .ok (.lastore, 1) := by decide +kernel
theorem d_P_move_I_86 : decode b_P_move_I 86 = .ok (.aload_n 0, 1) := by decide +kernel
theorem d_P_move_I_87 : decode b_P_move_I 87 = .ok (.getfield 9, 3) := by decide +kernel
theorem d_P_move_I_90 : decode b_P_move_I 90 = .ok (.iconst 0, 1) := by decide +kernel
theorem d_P_move_I_91 : decode b_P_move_I 91 = .ok (.iload_n 1, 1) := by decide +kernel
theorem d_P_move_I_92 : decode b_P_move_I 92 = .ok (.iadd, 1) := by decide +kernel
theorem d_P_move_I_93 : decode b_P_move_I 93 = .ok (.aload_n 0, 1) := by decide +kernel
theorem d_P_move_I_94 : decode b_P_move_I 94 = .ok (.aload_n 0, 1) := by decide +kernel
theorem d_P_move_I_95 : decode b_P_move_I 95 = .ok (.getfield 9, 3) := by decide +kernel
theorem d_P_move_I_98 : decode b_P_move_I 98 = .ok (.iconst 0, 1) := by decide +kernel
theorem d_P_move_I_99 : decode b_P_move_I 99 = .ok (.iload_n 1, 1) := by decide +kernel
theorem d_P_move_I_100 : decode b_P_move_I 100 = .ok (.iadd, 1) := by decide +kernel
theorem d_P_move_I_101 : decode b_P_move_I 101 = .ok (.laload, 1) := by decide +kernel
theorem d_P_move_I_102 : decode b_P_move_I 102 = .ok (.aload_n 0, 1) := by decide +kernel
theorem d_P_move_I_103 : decode b_P_move_I 103 = .ok (.getfield 9, 3) := by decide +kernel
theorem d_P_move_I_106 : decode b_P_move_I 106 = .ok (.bipush 16, 2) := by decide +kernel
theorem d_P_move_I_108 : decode b_P_move_I 108 = .ok (.iload_n 1, 1) := by decide +kernel
theorem d_P_move_I_109 : decode b_P_move_I 109 = .ok (.iadd, 1) := by decide +kernel
theorem d_P_move_I_110 : decode b_P_move_I 110 = .ok (.laload, 1) := by decide +kernel
theorem d_P_move_I_111 : decode b_P_move_I 111 = .ok (.invokevirtual 116, 3) := by decide +kernel
theorem d_P_move_I_114 : decode b_P_move_I 114 = .ok (.lastore, 1) := by decide +kernel
theorem d_P_move_I_115 : decode b_P_move_I 115 = .ok (.aload_n 0, 1) := by decide +kernel
theorem d_P_move_I_116 : decode b_P_move_I 116 = .ok (.getfield 9, 3) := by decide +kernel
theorem d_P_move_I_119 : decode b_P_move_I 119 = .ok (.bipush 8, 2) := by decide +kernel
theorem d_P_move_I_121 : decode b_P_move_I 121 = .ok (.iload_n 1, 1) := by decide +kernel
theorem d_P_move_I_122 : decode b_P_move_I 122 = .ok (.iadd, 1) := by decide +kernel
theorem d_P_move_I_123 : decode b_P_move_I 123 = .ok (.aload_n 0, 1) := by decide +kernel
theorem d_P_move_I_124 : decode b_P_move_I 124 = .ok (.aload_n 0, 1) := by decide +kernel
theorem d_P_move_I_125 : decode b_P_move_I 125 = .ok (.getfield 9, 3) := by decide +kernel
theorem d_P_move_I_128 : decode b_P_move_I 128 = .ok (.bipush 8, 2) := by decide +kernel
theorem d_P_move_I_130 : decode b_P_move_I 130 = .ok (.iload_n 1, 1) := by decide +kernel
theorem d_P_move_I_131 : decode b_P_move_I 131 = .ok (.iadd, 1) := by decide +kernel
theorem d_P_move_I_132 : decode b_P_move_I 132 = .ok (.laload, 1) := by decide +kernel
theorem d_P_move_I_133 : decode b_P_move_I 133 = .ok (.aload_n 0, 1) := by decide +kernel
theorem d_P_move_I_134 : decode b_P_move_I 134 = .ok (.getfield 9, 3) := by decide +kernel
theorem d_P_move_I_137 : decode b_P_move_I 137 = .ok (.bipush 24, 2) := by decide +kernel
theorem d_P_move_I_139 : decode b_P_move_I 139 = .ok (.iload_n 1, 1) := by decide +kernel
theorem d_P_move_I_140 : decode b_P_move_I 140 = .ok (.iadd, 1) := by decide +kernel
theorem d_P_move_I_141 : decode b_P_move_I 141 = .ok (.laload, 1) := by decide +kernel
theorem d_P_move_I_142 : decode b_P_move_I 142 = .ok (.invokevirtual 116, 3) := by decide +kernel
theorem d_P_move_I_145 : decode b_P_move_I 145 = .ok (.lastore, 1) := by decide +kernel
theorem d_P_move_I_146 : decode b_P_move_I 146 = .ok (.return_, 1) := by decide +kernel
def f_P_move_I (S : CS) (x1 : Int32) : CS :=
  let S1 : CS := u_sR S (vp_updL (sR S) ((16 : Int32) + x1).toNatClampNeg (f_P_afterDt_JJ S (sR S ((16 : Int32) + x1).toNatClampNeg) (f_I_quotient_JJ (sR S ((48 : Int32) + x1).toNatClampNeg) (sR S ((32 : Int32) + x1).toNatClampNeg))))
  let S2 : CS := u_sR S1 (vp_updL (sR S1) ((24 : Int32) + x1).toNatClampNeg (f_P_afterDt_JJ S1 (sR S1 ((24 : Int32) + x1).toNatClampNeg) (f_I_quotient_JJ (sR S1 ((56 : Int32) + x1).toNatClampNeg) (sR S1 ((32 : Int32) + x1).toNatClampNeg))))
  let S3 : CS := u_sR S2 (vp_updL (sR S2) ((0 : Int32) + x1).toNatClampNeg (f_P_afterDt_JJ S2 (sR S2 ((0 : Int32) + x1).toNatClampNeg) (sR S2 ((16 : Int32) + x1).toNatClampNeg)))
  let S4 : CS := u_sR S3 (vp_updL (sR S3) ((8 : Int32) + x1).toNatClampNeg (f_P_afterDt_JJ S3 (sR S3 ((8 : Int32) + x1).toNatClampNeg) (sR S3 ((24 : Int32) + x1).toNatClampNeg)))
  S4
set_option maxHeartbeats 4000000 in
set_option maxRecDepth 100000 in
theorem c_P_move_I (l : Launch) (dC : Nat → ClassId) (dI : Nat → Nat → Nat) (ad : Nat → Nat) (cJ cI : ClassId) (S : CS) (x1 : Int32) (hk_x1 : vp_in x1 8) (sz : Nat) : hMv l y_P_move_I (gw y_P_move_I b_P_move_I 2 none) { frames := 5, cells := 0, slots := 0, locals := 128 } [.ref (ad 1), .int x1] (dC, dI) classes (tysJI cJ cI) (fun _ => True) (cW ad cJ cI S) sz (cW ad cJ cI (f_P_move_I S x1)) := by
  refine Met.ofW (cc := b_P_move_I) (maxL := 2) (ret := none) (by decide) rfl ?_
  intro p e s m args below meth c s₁ B hml hv
  obtain ⟨rfl, hsz, hP, hK, hD0, hRT⟩ := hv
  have hx := B.exec
  have hb := B.bytes
  have hr := B.returns
  have hts := atoms_spec (ws := (gw y_P_move_I b_P_move_I 2 none)) B.pre
  have hown : s.vm.findClass "MotionLab$Plane" = some m.cls := findClass_of_methodNamed B.named
  have hlocks := B.notSynchronized
  subst hsz
  have hD := hD0.self (sz := s.heap.size)
  generalize hAe : va_A (cW ad cJ cI S) s.heap.size = A at hD
  have hA : ∀ q : Nat, s.heap.size ≤ q → A q := fun q h => by rw [← hAe]; exact Or.inr h
  have G : hG (dC, dI) classes A s.heap (cW ad cJ cI S) s.heap [] := ⟨hP, hD, va_S.rf⟩
  have hl := lv_entry ([.ref (ad 1), .int x1]) (n := 2) (Nat.le_of_ble_eq_true rfl)
  rw [lg_entry_eq]
  generalize (lg_sl ([.ref (ad 1), .int x1]) ++ List.replicate (2 - (lg_sl ([.ref (ad 1), .int x1])).length) Slot.unset).toArray = ls at hl ⊢
  have hl : lv_has ls 2 [(0, .ref (ad 1)), (1, .int x1)] := hl
  refine lv_aload_n hx hb d_P_move_I_0 rfl (lv_at hl 0 rfl) ?_
  refine va_get (D := (dC, dI)) (ci := 1) (v := .ref (ad 3)) (C := R_P) (T := F_P) (N := 3) hx hb hts (fun w h => gm (i_P w h)) hown hK G.1 1 rfl rfl 0 (by decide) (hts _ (gm tw_46)) (fun _ h9 => h9) rfl d_P_move_I_1 ?_
  refine lv_bipush (v := (16 : Int32)) hx hb d_P_move_I_4 (by decide) ?_
  refine lv_iload_n hx hb d_P_move_I_6 rfl (lv_at hl 1 rfl) ?_
  refine lv_iadd hx hb d_P_move_I_7 ?_
  refine lv_aload_n hx hb d_P_move_I_8 rfl (lv_at hl 0 rfl) ?_
  refine lv_aload_n hx hb d_P_move_I_9 rfl (lv_at hl 0 rfl) ?_
  refine va_get (D := (dC, dI)) (ci := 1) (v := .ref (ad 3)) (C := R_P) (T := F_P) (N := 3) hx hb hts (fun w h => gm (i_P w h)) hown hK G.1 1 rfl rfl 0 (by decide) (hts _ (gm tw_46)) (fun _ h9 => h9) rfl d_P_move_I_10 ?_
  refine lv_bipush (v := (16 : Int32)) hx hb d_P_move_I_13 (by decide) ?_
  refine lv_iload_n hx hb d_P_move_I_15 rfl (lv_at hl 1 rfl) ?_
  refine lv_iadd hx hb d_P_move_I_16 ?_
  refine va_lald hx hb hK G.1 3 0 rfl rfl (in_al hk_x1 (by decide)) d_P_move_I_17 ?_
  refine lv_aload_n hx hb d_P_move_I_18 rfl (lv_at hl 0 rfl) ?_
  refine va_get (D := (dC, dI)) (ci := 1) (v := .ref (ad 3)) (C := R_P) (T := F_P) (N := 3) hx hb hts (fun w h => gm (i_P w h)) hown hK G.1 1 rfl rfl 0 (by decide) (hts _ (gm tw_46)) (fun _ h9 => h9) rfl d_P_move_I_19 ?_
  refine lv_bipush (v := (48 : Int32)) hx hb d_P_move_I_22 (by decide) ?_
  refine lv_iload_n hx hb d_P_move_I_24 rfl (lv_at hl 1 rfl) ?_
  refine lv_iadd hx hb d_P_move_I_25 ?_
  refine va_lald hx hb hK G.1 3 0 rfl rfl (in_al hk_x1 (by decide)) d_P_move_I_26 ?_
  refine lv_aload_n hx hb d_P_move_I_27 rfl (lv_at hl 0 rfl) ?_
  refine va_get (D := (dC, dI)) (ci := 1) (v := .ref (ad 3)) (C := R_P) (T := F_P) (N := 3) hx hb hts (fun w h => gm (i_P w h)) hown hK G.1 1 rfl rfl 0 (by decide) (hts _ (gm tw_46)) (fun _ h9 => h9) rfl d_P_move_I_28 ?_
  refine lv_bipush (v := (32 : Int32)) hx hb d_P_move_I_31 (by decide) ?_
  refine lv_iload_n hx hb d_P_move_I_33 rfl (lv_at hl 1 rfl) ?_
  refine lv_iadd hx hb d_P_move_I_34 ?_
  refine va_lald hx hb hK G.1 3 0 rfl rfl (in_al hk_x1 (by decide)) d_P_move_I_35 ?_
  refine pu_l (As := [.long (sR S ((48 : Int32) + x1).toNatClampNeg), .long (sR S ((32 : Int32) + x1).toNatClampNeg)]) (rest := [.long (sR S ((16 : Int32) + x1).toNatClampNeg), .ref (ad 1), .int ((16 : Int32) + x1), .ref (ad 3)]) ⟨hx, hb, hml, hown, hts⟩ (c_I_quotient_JJ l _ (sR S ((48 : Int32) + x1).toNatClampNeg) (sR S ((32 : Int32) + x1).toNatClampNeg)) pu_pre (gw_call (k := 2) hts tw_248 tw_224 tw_5 tw_225 (by decide +kernel) rfl rfl ⟨Nat.le_of_ble_eq_true rfl, Nat.le_of_ble_eq_true rfl⟩) rfl hl.1 rfl (Nat.le_of_ble_eq_true rfl) ⟨Nat.zero_le _, Nat.zero_le _⟩ d_P_move_I_36 ?_
  refine hg_cl (As := [.long (sR S ((16 : Int32) + x1).toNatClampNeg), .long (f_I_quotient_JJ (sR S ((48 : Int32) + x1).toNatClampNeg) (sR S ((32 : Int32) + x1).toNatClampNeg))]) (rest := [.int ((16 : Int32) + x1), .ref (ad 3)]) ⟨hx, hb, hml, hown, hts⟩ (c_P_afterDt_JJ l dC dI ad cJ cI S (sR S ((16 : Int32) + x1).toNatClampNeg) (f_I_quotient_JJ (sR S ((48 : Int32) + x1).toNatClampNeg) (sR S ((32 : Int32) + x1).toNatClampNeg)) _) (gw_callV (k := 2) hts tw_254 tw_256 tp_3 tw_2 tw_257 (by decide +kernel) rfl rfl ⟨Nat.le_of_ble_eq_true rfl, Nat.le_of_ble_eq_true rfl⟩) hK G hA (hx_T _ _) 1 1 rfl rfl rfl hl.1 rfl (Nat.le_of_ble_eq_true rfl) ⟨Nat.zero_le _, Nat.zero_le _⟩ d_P_move_I_39 (fun H locs G => ?_)
  obtain ⟨S1, e1⟩ : ∃ z : CS, z = u_sR S (vp_updL (sR S) ((16 : Int32) + x1).toNatClampNeg (f_P_afterDt_JJ S (sR S ((16 : Int32) + x1).toNatClampNeg) (f_I_quotient_JJ (sR S ((48 : Int32) + x1).toNatClampNeg) (sR S ((32 : Int32) + x1).toNatClampNeg)))) := ⟨_, rfl⟩
  refine hg_last hx hb hK G 3 0 rfl rfl (in_al hk_x1 (by decide)) d_P_move_I_42 (cW ad cJ cI S1) (by rw [e1]; rfl) (fun H locs G => ?_)
  refine lv_aload_n hx hb d_P_move_I_43 rfl (lv_at hl 0 rfl) ?_
  refine va_get (D := (dC, dI)) (ci := 1) (v := .ref (ad 3)) (C := R_P) (T := F_P) (N := 3) hx hb hts (fun w h => gm (i_P w h)) hown hK G.1 1 rfl rfl 0 (by decide) (hts _ (gm tw_46)) (fun _ h9 => h9) rfl d_P_move_I_44 ?_
  refine lv_bipush (v := (24 : Int32)) hx hb d_P_move_I_47 (by decide) ?_
  refine lv_iload_n hx hb d_P_move_I_49 rfl (lv_at hl 1 rfl) ?_
  refine lv_iadd hx hb d_P_move_I_50 ?_
  refine lv_aload_n hx hb d_P_move_I_51 rfl (lv_at hl 0 rfl) ?_
  refine lv_aload_n hx hb d_P_move_I_52 rfl (lv_at hl 0 rfl) ?_
  refine va_get (D := (dC, dI)) (ci := 1) (v := .ref (ad 3)) (C := R_P) (T := F_P) (N := 3) hx hb hts (fun w h => gm (i_P w h)) hown hK G.1 1 rfl rfl 0 (by decide) (hts _ (gm tw_46)) (fun _ h9 => h9) rfl d_P_move_I_53 ?_
  refine lv_bipush (v := (24 : Int32)) hx hb d_P_move_I_56 (by decide) ?_
  refine lv_iload_n hx hb d_P_move_I_58 rfl (lv_at hl 1 rfl) ?_
  refine lv_iadd hx hb d_P_move_I_59 ?_
  refine va_lald hx hb hK G.1 3 0 rfl rfl (in_al hk_x1 (by decide)) d_P_move_I_60 ?_
  refine lv_aload_n hx hb d_P_move_I_61 rfl (lv_at hl 0 rfl) ?_
  refine va_get (D := (dC, dI)) (ci := 1) (v := .ref (ad 3)) (C := R_P) (T := F_P) (N := 3) hx hb hts (fun w h => gm (i_P w h)) hown hK G.1 1 rfl rfl 0 (by decide) (hts _ (gm tw_46)) (fun _ h9 => h9) rfl d_P_move_I_62 ?_
  refine lv_bipush (v := (56 : Int32)) hx hb d_P_move_I_65 (by decide) ?_
  refine lv_iload_n hx hb d_P_move_I_67 rfl (lv_at hl 1 rfl) ?_
  refine lv_iadd hx hb d_P_move_I_68 ?_
  refine va_lald hx hb hK G.1 3 0 rfl rfl (in_al hk_x1 (by decide)) d_P_move_I_69 ?_
  refine lv_aload_n hx hb d_P_move_I_70 rfl (lv_at hl 0 rfl) ?_
  refine va_get (D := (dC, dI)) (ci := 1) (v := .ref (ad 3)) (C := R_P) (T := F_P) (N := 3) hx hb hts (fun w h => gm (i_P w h)) hown hK G.1 1 rfl rfl 0 (by decide) (hts _ (gm tw_46)) (fun _ h9 => h9) rfl d_P_move_I_71 ?_
  refine lv_bipush (v := (32 : Int32)) hx hb d_P_move_I_74 (by decide) ?_
  refine lv_iload_n hx hb d_P_move_I_76 rfl (lv_at hl 1 rfl) ?_
  refine lv_iadd hx hb d_P_move_I_77 ?_
  refine va_lald hx hb hK G.1 3 0 rfl rfl (in_al hk_x1 (by decide)) d_P_move_I_78 ?_
  refine pu_l (As := [.long (sR S1 ((56 : Int32) + x1).toNatClampNeg), .long (sR S1 ((32 : Int32) + x1).toNatClampNeg)]) (rest := [.long (sR S1 ((24 : Int32) + x1).toNatClampNeg), .ref (ad 1), .int ((24 : Int32) + x1), .ref (ad 3)]) ⟨hx, hb, hml, hown, hts⟩ (c_I_quotient_JJ l _ (sR S1 ((56 : Int32) + x1).toNatClampNeg) (sR S1 ((32 : Int32) + x1).toNatClampNeg)) pu_pre (gw_call (k := 2) hts tw_248 tw_224 tw_5 tw_225 (by decide +kernel) rfl rfl ⟨Nat.le_of_ble_eq_true rfl, Nat.le_of_ble_eq_true rfl⟩) rfl hl.1 rfl (Nat.le_of_ble_eq_true rfl) ⟨Nat.zero_le _, Nat.zero_le _⟩ d_P_move_I_79 ?_
  refine hg_cl (As := [.long (sR S1 ((24 : Int32) + x1).toNatClampNeg), .long (f_I_quotient_JJ (sR S1 ((56 : Int32) + x1).toNatClampNeg) (sR S1 ((32 : Int32) + x1).toNatClampNeg))]) (rest := [.int ((24 : Int32) + x1), .ref (ad 3)]) ⟨hx, hb, hml, hown, hts⟩ (c_P_afterDt_JJ l dC dI ad cJ cI S1 (sR S1 ((24 : Int32) + x1).toNatClampNeg) (f_I_quotient_JJ (sR S1 ((56 : Int32) + x1).toNatClampNeg) (sR S1 ((32 : Int32) + x1).toNatClampNeg)) _) (gw_callV (k := 2) hts tw_254 tw_256 tp_3 tw_2 tw_257 (by decide +kernel) rfl rfl ⟨Nat.le_of_ble_eq_true rfl, Nat.le_of_ble_eq_true rfl⟩) hK G hA (hx_T _ _) 1 1 rfl rfl rfl hl.1 rfl (Nat.le_of_ble_eq_true rfl) ⟨Nat.zero_le _, Nat.zero_le _⟩ d_P_move_I_82 (fun H locs G => ?_)
  obtain ⟨S2, e2⟩ : ∃ z : CS, z = u_sR S1 (vp_updL (sR S1) ((24 : Int32) + x1).toNatClampNeg (f_P_afterDt_JJ S1 (sR S1 ((24 : Int32) + x1).toNatClampNeg) (f_I_quotient_JJ (sR S1 ((56 : Int32) + x1).toNatClampNeg) (sR S1 ((32 : Int32) + x1).toNatClampNeg)))) := ⟨_, rfl⟩
  refine hg_last hx hb hK G 3 0 rfl rfl (in_al hk_x1 (by decide)) d_P_move_I_85 (cW ad cJ cI S2) (by rw [e2]; rfl) (fun H locs G => ?_)
  refine lv_aload_n hx hb d_P_move_I_86 rfl (lv_at hl 0 rfl) ?_
  refine va_get (D := (dC, dI)) (ci := 1) (v := .ref (ad 3)) (C := R_P) (T := F_P) (N := 3) hx hb hts (fun w h => gm (i_P w h)) hown hK G.1 1 rfl rfl 0 (by decide) (hts _ (gm tw_46)) (fun _ h9 => h9) rfl d_P_move_I_87 ?_
  refine lv_iconst (v := 0) hx hb d_P_move_I_90 (by decide) ?_
  refine lv_iload_n hx hb d_P_move_I_91 rfl (lv_at hl 1 rfl) ?_
  refine lv_iadd hx hb d_P_move_I_92 ?_
  refine lv_aload_n hx hb d_P_move_I_93 rfl (lv_at hl 0 rfl) ?_
  refine lv_aload_n hx hb d_P_move_I_94 rfl (lv_at hl 0 rfl) ?_
  refine va_get (D := (dC, dI)) (ci := 1) (v := .ref (ad 3)) (C := R_P) (T := F_P) (N := 3) hx hb hts (fun w h => gm (i_P w h)) hown hK G.1 1 rfl rfl 0 (by decide) (hts _ (gm tw_46)) (fun _ h9 => h9) rfl d_P_move_I_95 ?_
  refine lv_iconst (v := 0) hx hb d_P_move_I_98 (by decide) ?_
  refine lv_iload_n hx hb d_P_move_I_99 rfl (lv_at hl 1 rfl) ?_
  refine lv_iadd hx hb d_P_move_I_100 ?_
  refine va_lald hx hb hK G.1 3 0 rfl rfl (in_al hk_x1 (by decide)) d_P_move_I_101 ?_
  refine lv_aload_n hx hb d_P_move_I_102 rfl (lv_at hl 0 rfl) ?_
  refine va_get (D := (dC, dI)) (ci := 1) (v := .ref (ad 3)) (C := R_P) (T := F_P) (N := 3) hx hb hts (fun w h => gm (i_P w h)) hown hK G.1 1 rfl rfl 0 (by decide) (hts _ (gm tw_46)) (fun _ h9 => h9) rfl d_P_move_I_103 ?_
  refine lv_bipush (v := (16 : Int32)) hx hb d_P_move_I_106 (by decide) ?_
  refine lv_iload_n hx hb d_P_move_I_108 rfl (lv_at hl 1 rfl) ?_
  refine lv_iadd hx hb d_P_move_I_109 ?_
  refine va_lald hx hb hK G.1 3 0 rfl rfl (in_al hk_x1 (by decide)) d_P_move_I_110 ?_
  refine hg_cl (As := [.long (sR S2 ((0 : Int32) + x1).toNatClampNeg), .long (sR S2 ((16 : Int32) + x1).toNatClampNeg)]) (rest := [.int ((0 : Int32) + x1), .ref (ad 3)]) ⟨hx, hb, hml, hown, hts⟩ (c_P_afterDt_JJ l dC dI ad cJ cI S2 (sR S2 ((0 : Int32) + x1).toNatClampNeg) (sR S2 ((16 : Int32) + x1).toNatClampNeg) _) (gw_callV (k := 2) hts tw_254 tw_256 tp_3 tw_2 tw_257 (by decide +kernel) rfl rfl ⟨Nat.le_of_ble_eq_true rfl, Nat.le_of_ble_eq_true rfl⟩) hK G hA (hx_T _ _) 1 1 rfl rfl rfl hl.1 rfl (Nat.le_of_ble_eq_true rfl) ⟨Nat.zero_le _, Nat.zero_le _⟩ d_P_move_I_111 (fun H locs G => ?_)
  obtain ⟨S3, e3⟩ : ∃ z : CS, z = u_sR S2 (vp_updL (sR S2) ((0 : Int32) + x1).toNatClampNeg (f_P_afterDt_JJ S2 (sR S2 ((0 : Int32) + x1).toNatClampNeg) (sR S2 ((16 : Int32) + x1).toNatClampNeg))) := ⟨_, rfl⟩
  refine hg_last hx hb hK G 3 0 rfl rfl (in_al hk_x1 (by decide)) d_P_move_I_114 (cW ad cJ cI S3) (by rw [e3]; rfl) (fun H locs G => ?_)
  refine lv_aload_n hx hb d_P_move_I_115 rfl (lv_at hl 0 rfl) ?_
  refine va_get (D := (dC, dI)) (ci := 1) (v := .ref (ad 3)) (C := R_P) (T := F_P) (N := 3) hx hb hts (fun w h => gm (i_P w h)) hown hK G.1 1 rfl rfl 0 (by decide) (hts _ (gm tw_46)) (fun _ h9 => h9) rfl d_P_move_I_116 ?_
  refine lv_bipush (v := (8 : Int32)) hx hb d_P_move_I_119 (by decide) ?_
  refine lv_iload_n hx hb d_P_move_I_121 rfl (lv_at hl 1 rfl) ?_
  refine lv_iadd hx hb d_P_move_I_122 ?_
  refine lv_aload_n hx hb d_P_move_I_123 rfl (lv_at hl 0 rfl) ?_
  refine lv_aload_n hx hb d_P_move_I_124 rfl (lv_at hl 0 rfl) ?_
  refine va_get (D := (dC, dI)) (ci := 1) (v := .ref (ad 3)) (C := R_P) (T := F_P) (N := 3) hx hb hts (fun w h => gm (i_P w h)) hown hK G.1 1 rfl rfl 0 (by decide) (hts _ (gm tw_46)) (fun _ h9 => h9) rfl d_P_move_I_125 ?_
  refine lv_bipush (v := (8 : Int32)) hx hb d_P_move_I_128 (by decide) ?_
  refine lv_iload_n hx hb d_P_move_I_130 rfl (lv_at hl 1 rfl) ?_
  refine lv_iadd hx hb d_P_move_I_131 ?_
  refine va_lald hx hb hK G.1 3 0 rfl rfl (in_al hk_x1 (by decide)) d_P_move_I_132 ?_
  refine lv_aload_n hx hb d_P_move_I_133 rfl (lv_at hl 0 rfl) ?_
  refine va_get (D := (dC, dI)) (ci := 1) (v := .ref (ad 3)) (C := R_P) (T := F_P) (N := 3) hx hb hts (fun w h => gm (i_P w h)) hown hK G.1 1 rfl rfl 0 (by decide) (hts _ (gm tw_46)) (fun _ h9 => h9) rfl d_P_move_I_134 ?_
  refine lv_bipush (v := (24 : Int32)) hx hb d_P_move_I_137 (by decide) ?_
  refine lv_iload_n hx hb d_P_move_I_139 rfl (lv_at hl 1 rfl) ?_
  refine lv_iadd hx hb d_P_move_I_140 ?_
  refine va_lald hx hb hK G.1 3 0 rfl rfl (in_al hk_x1 (by decide)) d_P_move_I_141 ?_
  refine hg_cl (As := [.long (sR S3 ((8 : Int32) + x1).toNatClampNeg), .long (sR S3 ((24 : Int32) + x1).toNatClampNeg)]) (rest := [.int ((8 : Int32) + x1), .ref (ad 3)]) ⟨hx, hb, hml, hown, hts⟩ (c_P_afterDt_JJ l dC dI ad cJ cI S3 (sR S3 ((8 : Int32) + x1).toNatClampNeg) (sR S3 ((24 : Int32) + x1).toNatClampNeg) _) (gw_callV (k := 2) hts tw_254 tw_256 tp_3 tw_2 tw_257 (by decide +kernel) rfl rfl ⟨Nat.le_of_ble_eq_true rfl, Nat.le_of_ble_eq_true rfl⟩) hK G hA (hx_T _ _) 1 1 rfl rfl rfl hl.1 rfl (Nat.le_of_ble_eq_true rfl) ⟨Nat.zero_le _, Nat.zero_le _⟩ d_P_move_I_142 (fun H locs G => ?_)
  obtain ⟨S4, e4⟩ : ∃ z : CS, z = u_sR S3 (vp_updL (sR S3) ((8 : Int32) + x1).toNatClampNeg (f_P_afterDt_JJ S3 (sR S3 ((8 : Int32) + x1).toNatClampNeg) (sR S3 ((24 : Int32) + x1).toNatClampNeg))) := ⟨_, rfl⟩
  refine hg_last hx hb hK G 3 0 rfl rfl (in_al hk_x1 (by decide)) d_P_move_I_145 (cW ad cJ cI S4) (by rw [e4]; rfl) (fun H locs G => ?_)
  exact hg_vret hx hb hr hlocks hK hAe G (by have qe1 := e1.symm; have qe2 := e2.symm; have qe3 := e3.symm; have qe4 := e4.symm; subst qe1 qe2 qe3 qe4; rfl) d_P_move_I_146
theorem kp_move (S : CS) (x : Int32) : sB (f_P_move_I S x) = sB S ∧ sC (f_P_move_I S x) = sC S := by unfold f_P_move_I; exact ⟨rfl, rfl⟩
-- ===== MotionLab$Plane.keepInside(II)V 
abbrev y_P_keepInside_II : MethodName := ⟨"MotionLab$Plane", "keepInside", "(II)V"⟩
abbrev b_P_keepInside_II : ByteArray := prog_3_method_16_code
theorem d_P_keepInside_II_0 : decode b_P_keepInside_II 0 = .ok (.aload_n 0, 1) := by decide +kernel
theorem d_P_keepInside_II_1 : decode b_P_keepInside_II 1 = .ok (.getfield 9, 3) := by decide +kernel
theorem d_P_keepInside_II_4 : decode b_P_keepInside_II 4 = .ok (.iload_n 1, 1) := by decide +kernel
theorem d_P_keepInside_II_5 : decode b_P_keepInside_II 5 = .ok (.laload, 1) := by decide +kernel
theorem d_P_keepInside_II_6 : decode b_P_keepInside_II 6 = .ok (.lstore_n 3, 1) := by decide +kernel
theorem d_P_keepInside_II_7 : decode b_P_keepInside_II 7 = .ok (.aload_n 0, 1) := by decide +kernel
theorem d_P_keepInside_II_8 : decode b_P_keepInside_II 8 = .ok (.getfield 13, 3) := by decide +kernel
theorem d_P_keepInside_II_11 : decode b_P_keepInside_II 11 = .ok (.iconst 4, 1) := by decide +kernel
theorem d_P_keepInside_II_12 : decode b_P_keepInside_II 12 = .ok (.laload, 1) := by decide +kernel
theorem d_P_keepInside_II_13 : decode b_P_keepInside_II 13 = .ok (.lstore 5, 2) := by decide +kernel
theorem d_P_keepInside_II_15 : decode b_P_keepInside_II 15 = .ok (.lload 5, 2) := by decide +kernel
theorem d_P_keepInside_II_17 : decode b_P_keepInside_II 17 = .ok (.invokestatic 119, 3) := by decide +kernel
theorem d_P_keepInside_II_20 : decode b_P_keepInside_II 20 = .ok (.lstore 7, 2) := by decide +kernel
theorem d_P_keepInside_II_22 : decode b_P_keepInside_II 22 = .ok (.lload 5, 2) := by decide +kernel
theorem d_P_keepInside_II_24 : decode b_P_keepInside_II 24 = .ok (.lload_n 3, 1) := by decide +kernel
theorem d_P_keepInside_II_25 : decode b_P_keepInside_II 25 = .ok (.invokestatic 103, 3) := by decide +kernel
theorem d_P_keepInside_II_28 : decode b_P_keepInside_II 28 = .ok (.istore 9, 2) := by decide +kernel
theorem d_P_keepInside_II_30 : decode b_P_keepInside_II 30 = .ok (.iload 9, 2) := by decide +kernel
theorem d_P_keepInside_II_32 : decode b_P_keepInside_II 32 = .ok (.ifCond .ne 13, 3) := by decide +kernel
theorem d_P_keepInside_II_35 : decode b_P_keepInside_II 35 = .ok (.lload_n 3, 1) := by decide +kernel
theorem d_P_keepInside_II_36 : decode b_P_keepInside_II 36 = .ok (.lload 7, 2) := by decide +kernel
theorem d_P_keepInside_II_38 : decode b_P_keepInside_II 38 = .ok (.invokestatic 103, 3) := by decide +kernel
theorem d_P_keepInside_II_41 : decode b_P_keepInside_II 41 = .ok (.ifCond .ne 4, 3) := by decide +kernel
theorem d_P_keepInside_II_44 : decode b_P_keepInside_II 44 = .ok (.return_, 1) := by decide +kernel
theorem d_P_keepInside_II_45 : decode b_P_keepInside_II 45 = .ok (.iload 9, 2) := by decide +kernel
theorem d_P_keepInside_II_47 : decode b_P_keepInside_II 47 = .ok (.ifCond .eq 8, 3) := by decide +kernel
theorem d_P_keepInside_II_50 : decode b_P_keepInside_II 50 = .ok (.lload 5, 2) := by decide +kernel
theorem d_P_keepInside_II_52 : decode b_P_keepInside_II 52 = .ok (.goto 5, 3) := by decide +kernel
theorem d_P_keepInside_II_55 : decode b_P_keepInside_II 55 = .ok (.lload 7, 2) := by decide +kernel
theorem d_P_keepInside_II_57 : decode b_P_keepInside_II 57 = .ok (.lstore 10, 2) := by decide +kernel
theorem d_P_keepInside_II_59 : decode b_P_keepInside_II 59 = .ok (.lload_n 3, 1) := by decide +kernel
theorem d_P_keepInside_II_60 : decode b_P_keepInside_II 60 = .ok (.lload 10, 2) := by decide +kernel
theorem d_P_keepInside_II_62 : decode b_P_keepInside_II 62 = .ok (.invokestatic 70, 3) := by decide +kernel
theorem d_P_keepInside_II_65 : decode b_P_keepInside_II 65 = .ok (.lstore 12, 2) := by decide +kernel
theorem d_P_keepInside_II_67 : decode b_P_keepInside_II 67 = .ok (.aload_n 0, 1) := by decide +kernel
theorem d_P_keepInside_II_68 : decode b_P_keepInside_II 68 = .ok (.getfield 9, 3) := by decide +kernel
theorem d_P_keepInside_II_71 : decode b_P_keepInside_II 71 = .ok (.iload_n 1, 1) := by decide +kernel
theorem d_P_keepInside_II_72 : decode b_P_keepInside_II 72 = .ok (.lload 10, 2) := by decide +kernel
theorem d_P_keepInside_II_74 : decode b_P_keepInside_II 74 = .ok (.lload 12, 2) := by decide +kernel
theorem d_P_keepInside_II_76 : decode b_P_keepInside_II 76 = .ok (.aload_n 0, 1) := by decide +kernel
theorem d_P_keepInside_II_77 : decode b_P_keepInside_II 77 = .ok (.getfield 13, 3) := by decide +kernel
theorem d_P_keepInside_II_80 : decode b_P_keepInside_II 80 = .ok (.iconst 5, 1) := by decide +kernel
theorem d_P_keepInside_II_81 : decode b_P_keepInside_II 81 = .ok (.laload, 1) := by decide +kernel
theorem d_P_keepInside_II_82 : decode b_P_keepInside_II 82 = .ok (.invokestatic 86, 3) := by decide +kernel
theorem d_P_keepInside_II_85 : decode b_P_keepInside_II 85 = .ok (.invokestatic 70, 3) := by decide +kernel
theorem d_P_keepInside_II_88 : decode b_P_keepInside_II 88 = .ok (.lastore, 1) := by decide +kernel
theorem d_P_keepInside_II_89 : decode b_P_keepInside_II 89 = .ok (.aload_n 0, 1) := by decide +kernel
theorem d_P_keepInside_II_90 : decode b_P_keepInside_II 90 = .ok (.getfield 9, 3) := by decide +kernel
theorem d_P_keepInside_II_93 : decode b_P_keepInside_II 93 = .ok (.iload_n 2, 1) := by decide +kernel
theorem d_P_keepInside_II_94 : decode b_P_keepInside_II 94 = .ok (.aload_n 0, 1) := by decide +kernel
theorem d_P_keepInside_II_95 : decode b_P_keepInside_II 95 = .ok (.getfield 9, 3) := by decide +kernel
theorem d_P_keepInside_II_98 : decode b_P_keepInside_II 98 = .ok (.iload_n 2, 1) := by decide +kernel
theorem d_P_keepInside_II_99 : decode b_P_keepInside_II 99 = .ok (.laload, 1) := by decide +kernel
theorem d_P_keepInside_II_100 : decode b_P_keepInside_II 100 = .ok (.aload_n 0, 1) := by decide +kernel
theorem d_P_keepInside_II_101 : decode b_P_keepInside_II 101 = .ok (.getfield 13, 3) := by decide +kernel
theorem d_P_keepInside_II_104 : decode b_P_keepInside_II 104 = .ok (.iconst 5, 1) := by decide +kernel
theorem d_P_keepInside_II_105 : decode b_P_keepInside_II 105 = .ok (.laload, 1) := by decide +kernel
theorem d_P_keepInside_II_106 : decode b_P_keepInside_II 106 = .ok (.invokestatic 86, 3) := by decide +kernel
theorem d_P_keepInside_II_109 : decode b_P_keepInside_II 109 = .ok (.invokestatic 119, 3) := by decide +kernel
theorem d_P_keepInside_II_112 : decode b_P_keepInside_II 112 = .ok (.lastore, 1) := by decide +kernel
theorem d_P_keepInside_II_113 : decode b_P_keepInside_II 113 = .ok (.return_, 1) := by decide +kernel
def f_P_keepInside_II (S : CS) (x1 : Int32) (x2 : Int32) : CS :=
  let v1 : Int64 := sR S x1.toNatClampNeg
  let v2 : Int64 := sF S (4 : Int32).toNatClampNeg
  let v3 : Int64 := f_I_negated_J v2
  let v4 : Int32 := f_I_less_JJ v2 v1
  if v4 = 0 then
    if (f_I_less_JJ v1 v3) = 0 then
      S
    else
      if v4 = 0 then
        let v15 : Int64 := f_I_difference_JJ v1 v3
        let S16 : CS := u_sR S (vp_updL (sR S) x1.toNatClampNeg (f_I_difference_JJ v3 (f_I_product_JJ v15 (sF S (5 : Int32).toNatClampNeg))))
        let S17 : CS := u_sR S16 (vp_updL (sR S16) x2.toNatClampNeg (f_I_negated_J (f_I_product_JJ (sR S16 x2.toNatClampNeg) (sF S16 (5 : Int32).toNatClampNeg))))
        S17
      else
        let v18 : Int64 := f_I_difference_JJ v1 v2
        let S19 : CS := u_sR S (vp_updL (sR S) x1.toNatClampNeg (f_I_difference_JJ v2 (f_I_product_JJ v18 (sF S (5 : Int32).toNatClampNeg))))
        let S20 : CS := u_sR S19 (vp_updL (sR S19) x2.toNatClampNeg (f_I_negated_J (f_I_product_JJ (sR S19 x2.toNatClampNeg) (sF S19 (5 : Int32).toNatClampNeg))))
        S20
  else
    if v4 = 0 then
      let v7 : Int64 := f_I_difference_JJ v1 v3
      let S8 : CS := u_sR S (vp_updL (sR S) x1.toNatClampNeg (f_I_difference_JJ v3 (f_I_product_JJ v7 (sF S (5 : Int32).toNatClampNeg))))
      let S9 : CS := u_sR S8 (vp_updL (sR S8) x2.toNatClampNeg (f_I_negated_J (f_I_product_JJ (sR S8 x2.toNatClampNeg) (sF S8 (5 : Int32).toNatClampNeg))))
      S9
    else
      let v10 : Int64 := f_I_difference_JJ v1 v2
      let S11 : CS := u_sR S (vp_updL (sR S) x1.toNatClampNeg (f_I_difference_JJ v2 (f_I_product_JJ v10 (sF S (5 : Int32).toNatClampNeg))))
      let S12 : CS := u_sR S11 (vp_updL (sR S11) x2.toNatClampNeg (f_I_negated_J (f_I_product_JJ (sR S11 x2.toNatClampNeg) (sF S11 (5 : Int32).toNatClampNeg))))
      S12
set_option maxHeartbeats 4000000 in
set_option maxRecDepth 100000 in
theorem c_P_keepInside_II (l : Launch) (dC : Nat → ClassId) (dI : Nat → Nat → Nat) (ad : Nat → Nat) (cJ cI : ClassId) (S : CS) (x1 : Int32) (x2 : Int32) (hk_x1 : vp_in x1 64) (hk_x2 : vp_in x2 64) (sz : Nat) : hMv l y_P_keepInside_II (gw y_P_keepInside_II b_P_keepInside_II 14 none) { frames := 5, cells := 0, slots := 0, locals := 127 } [.ref (ad 1), .int x1, .int x2] (dC, dI) classes (tysJI cJ cI) (fun _ => True) (cW ad cJ cI S) sz (cW ad cJ cI (f_P_keepInside_II S x1 x2)) := by
  refine Met.ofW (cc := b_P_keepInside_II) (maxL := 14) (ret := none) (by decide) rfl ?_
  intro p e s m args below meth c s₁ B hml hv
  obtain ⟨rfl, hsz, hP, hK, hD0, hRT⟩ := hv
  have hx := B.exec
  have hb := B.bytes
  have hr := B.returns
  have hts := atoms_spec (ws := (gw y_P_keepInside_II b_P_keepInside_II 14 none)) B.pre
  have hown : s.vm.findClass "MotionLab$Plane" = some m.cls := findClass_of_methodNamed B.named
  have hlocks := B.notSynchronized
  subst hsz
  have hD := hD0.self (sz := s.heap.size)
  generalize hAe : va_A (cW ad cJ cI S) s.heap.size = A at hD
  have hA : ∀ q : Nat, s.heap.size ≤ q → A q := fun q h => by rw [← hAe]; exact Or.inr h
  have G : hG (dC, dI) classes A s.heap (cW ad cJ cI S) s.heap [] := ⟨hP, hD, va_S.rf⟩
  have hl := lv_entry ([.ref (ad 1), .int x1, .int x2]) (n := 14) (Nat.le_of_ble_eq_true rfl)
  rw [lg_entry_eq]
  generalize (lg_sl ([.ref (ad 1), .int x1, .int x2]) ++ List.replicate (14 - (lg_sl ([.ref (ad 1), .int x1, .int x2])).length) Slot.unset).toArray = ls at hl ⊢
  have hl : lv_has ls 14 [(0, .ref (ad 1)), (1, .int x1), (2, .int x2)] := hl
  refine lv_aload_n hx hb d_P_keepInside_II_0 rfl (lv_at hl 0 rfl) ?_
  refine va_get (D := (dC, dI)) (ci := 1) (v := .ref (ad 3)) (C := R_P) (T := F_P) (N := 3) hx hb hts (fun w h => gm (i_P w h)) hown hK G.1 1 rfl rfl 0 (by decide) (hts _ (gm tw_46)) (fun _ h9 => h9) rfl d_P_keepInside_II_1 ?_
  refine lv_iload_n hx hb d_P_keepInside_II_4 rfl (lv_at hl 1 rfl) ?_
  refine va_lald hx hb hK G.1 3 0 rfl rfl hk_x1 d_P_keepInside_II_5 ?_
  refine lv_topl (fun v1 e1 => ?_)
  refine lv_lstore_n (lv' := [(3, .long v1), (0, .ref (ad 1)), (1, .int x1), (2, .int x2)]) hx hb d_P_keepInside_II_6 rfl hl (by decide) rfl (fun ls hl => ?_)
  refine lv_aload_n hx hb d_P_keepInside_II_7 rfl (lv_at hl 1 rfl) ?_
  refine va_get (D := (dC, dI)) (ci := 1) (v := .ref (ad 4)) (C := R_P) (T := F_P) (N := 3) hx hb hts (fun w h => gm (i_P w h)) hown hK G.1 1 rfl rfl 1 (by decide) (hts _ (gm tw_47)) (fun _ h9 => h9) rfl d_P_keepInside_II_8 ?_
  refine lv_iconst (v := 4) hx hb d_P_keepInside_II_11 (by decide) ?_
  refine va_lald hx hb hK G.1 4 0 rfl rfl (in_of (by decide) (by decide)) d_P_keepInside_II_12 ?_
  refine lv_topl (fun v2 e2 => ?_)
  refine lv_lstore (lv' := [(5, .long v2), (3, .long v1), (0, .ref (ad 1)), (1, .int x1), (2, .int x2)]) hx hb d_P_keepInside_II_13 hl (by decide) rfl (fun ls hl => ?_)
  refine lv_lload hx hb d_P_keepInside_II_15 (lv_at hl 0 rfl) ?_
  refine pu_l (As := [.long v2]) (rest := []) ⟨hx, hb, hml, hown, hts⟩ (c_I_negated_J l _ v2) pu_pre (gw_call (k := 1) hts tw_262 tw_263 tw_5 tw_264 (by decide +kernel) rfl rfl ⟨Nat.le_of_ble_eq_true rfl, Nat.le_of_ble_eq_true rfl⟩) rfl hl.1 rfl (Nat.le_of_ble_eq_true rfl) ⟨Nat.zero_le _, Nat.zero_le _⟩ d_P_keepInside_II_17 ?_
  refine lv_topl (fun v3 e3 => ?_)
  refine lv_lstore (lv' := [(7, .long v3), (5, .long v2), (3, .long v1), (0, .ref (ad 1)), (1, .int x1), (2, .int x2)]) hx hb d_P_keepInside_II_20 hl (by decide) rfl (fun ls hl => ?_)
  refine lv_lload hx hb d_P_keepInside_II_22 (lv_at hl 1 rfl) ?_
  refine lv_lload_n hx hb d_P_keepInside_II_24 rfl (lv_at hl 2 rfl) ?_
  refine pu_i (As := [.long v2, .long v1]) (rest := []) ⟨hx, hb, hml, hown, hts⟩ (c_I_less_JJ l _ v2 v1) pu_pre (gw_call (k := 2) hts tw_230 tw_231 tw_5 tw_232 (by decide +kernel) rfl rfl ⟨Nat.le_of_ble_eq_true rfl, Nat.le_of_ble_eq_true rfl⟩) rfl hl.1 rfl (Nat.le_of_ble_eq_true rfl) ⟨Nat.zero_le _, Nat.zero_le _⟩ d_P_keepInside_II_25 ?_
  refine lv_topi (fun v4 e4 => ?_)
  refine lv_istore (lv' := [(9, .int v4), (7, .long v3), (5, .long v2), (3, .long v1), (0, .ref (ad 1)), (1, .int x1), (2, .int x2)]) hx hb d_P_keepInside_II_28 hl (by decide) rfl (fun ls hl => ?_)
  refine lv_iload hx hb d_P_keepInside_II_30 (lv_at hl 0 rfl) ?_
  refine lv_if_ne (tgt := 45) hx hb d_P_keepInside_II_32 (by decide) (fun c5 => ?_) (fun c5 => ?_)
  · refine lv_iload hx hb d_P_keepInside_II_45 (lv_at hl 0 rfl) ?_
    refine lv_if_eq (tgt := 55) hx hb d_P_keepInside_II_47 (by decide) (fun c6 => ?_) (fun c6 => ?_)
    · refine lv_lload hx hb d_P_keepInside_II_55 (lv_at hl 1 rfl) ?_
      refine lv_lstore (lv' := [(10, .long v3), (9, .int v4), (7, .long v3), (5, .long v2), (3, .long v1), (0, .ref (ad 1)), (1, .int x1), (2, .int x2)]) hx hb d_P_keepInside_II_57 hl (by decide) rfl (fun ls hl => ?_)
      refine lv_lload_n hx hb d_P_keepInside_II_59 rfl (lv_at hl 4 rfl) ?_
      refine lv_lload hx hb d_P_keepInside_II_60 (lv_at hl 0 rfl) ?_
      refine pu_l (As := [.long v1, .long v3]) (rest := []) ⟨hx, hb, hml, hown, hts⟩ (c_I_difference_JJ l _ v1 v3) pu_pre (gw_call (k := 2) hts tw_188 tw_189 tw_5 tw_190 (by decide +kernel) rfl rfl ⟨Nat.le_of_ble_eq_true rfl, Nat.le_of_ble_eq_true rfl⟩) rfl hl.1 rfl (Nat.le_of_ble_eq_true rfl) ⟨Nat.zero_le _, Nat.zero_le _⟩ d_P_keepInside_II_62 ?_
      refine lv_topl (fun v7 e7 => ?_)
      refine lv_lstore (lv' := [(12, .long v7), (10, .long v3), (9, .int v4), (7, .long v3), (5, .long v2), (3, .long v1), (0, .ref (ad 1)), (1, .int x1), (2, .int x2)]) hx hb d_P_keepInside_II_65 hl (by decide) rfl (fun ls hl => ?_)
      refine lv_aload_n hx hb d_P_keepInside_II_67 rfl (lv_at hl 6 rfl) ?_
      refine va_get (D := (dC, dI)) (ci := 1) (v := .ref (ad 3)) (C := R_P) (T := F_P) (N := 3) hx hb hts (fun w h => gm (i_P w h)) hown hK G.1 1 rfl rfl 0 (by decide) (hts _ (gm tw_46)) (fun _ h9 => h9) rfl d_P_keepInside_II_68 ?_
      refine lv_iload_n hx hb d_P_keepInside_II_71 rfl (lv_at hl 7 rfl) ?_
      refine lv_lload hx hb d_P_keepInside_II_72 (lv_at hl 1 rfl) ?_
      refine lv_lload hx hb d_P_keepInside_II_74 (lv_at hl 0 rfl) ?_
      refine lv_aload_n hx hb d_P_keepInside_II_76 rfl (lv_at hl 6 rfl) ?_
      refine va_get (D := (dC, dI)) (ci := 1) (v := .ref (ad 4)) (C := R_P) (T := F_P) (N := 3) hx hb hts (fun w h => gm (i_P w h)) hown hK G.1 1 rfl rfl 1 (by decide) (hts _ (gm tw_47)) (fun _ h9 => h9) rfl d_P_keepInside_II_77 ?_
      refine lv_iconst (v := 5) hx hb d_P_keepInside_II_80 (by decide) ?_
      refine va_lald hx hb hK G.1 4 0 rfl rfl (in_of (by decide) (by decide)) d_P_keepInside_II_81 ?_
      refine pu_l (As := [.long v7, .long (sF S (5 : Int32).toNatClampNeg)]) (rest := [.long v3, .int x1, .ref (ad 3)]) ⟨hx, hb, hml, hown, hts⟩ (c_I_product_JJ l _ v7 (sF S (5 : Int32).toNatClampNeg)) pu_pre (gw_call (k := 2) hts tw_174 tw_175 tw_5 tw_176 (by decide +kernel) rfl rfl ⟨Nat.le_of_ble_eq_true rfl, Nat.le_of_ble_eq_true rfl⟩) rfl hl.1 rfl (Nat.le_of_ble_eq_true rfl) ⟨Nat.zero_le _, Nat.zero_le _⟩ d_P_keepInside_II_82 ?_
      refine pu_l (As := [.long v3, .long (f_I_product_JJ v7 (sF S (5 : Int32).toNatClampNeg))]) (rest := [.int x1, .ref (ad 3)]) ⟨hx, hb, hml, hown, hts⟩ (c_I_difference_JJ l _ v3 (f_I_product_JJ v7 (sF S (5 : Int32).toNatClampNeg))) pu_pre (gw_call (k := 2) hts tw_188 tw_189 tw_5 tw_190 (by decide +kernel) rfl rfl ⟨Nat.le_of_ble_eq_true rfl, Nat.le_of_ble_eq_true rfl⟩) rfl hl.1 rfl (Nat.le_of_ble_eq_true rfl) ⟨Nat.zero_le _, Nat.zero_le _⟩ d_P_keepInside_II_85 ?_
      obtain ⟨S8, e8⟩ : ∃ z : CS, z = u_sR S (vp_updL (sR S) x1.toNatClampNeg (f_I_difference_JJ v3 (f_I_product_JJ v7 (sF S (5 : Int32).toNatClampNeg)))) := ⟨_, rfl⟩
      refine hg_last hx hb hK G 3 0 rfl rfl hk_x1 d_P_keepInside_II_88 (cW ad cJ cI S8) (by rw [e8]; rfl) (fun H locs G => ?_)
      refine lv_aload_n hx hb d_P_keepInside_II_89 rfl (lv_at hl 6 rfl) ?_
      refine va_get (D := (dC, dI)) (ci := 1) (v := .ref (ad 3)) (C := R_P) (T := F_P) (N := 3) hx hb hts (fun w h => gm (i_P w h)) hown hK G.1 1 rfl rfl 0 (by decide) (hts _ (gm tw_46)) (fun _ h9 => h9) rfl d_P_keepInside_II_90 ?_
      refine lv_iload_n hx hb d_P_keepInside_II_93 rfl (lv_at hl 8 rfl) ?_
      refine lv_aload_n hx hb d_P_keepInside_II_94 rfl (lv_at hl 6 rfl) ?_
      refine va_get (D := (dC, dI)) (ci := 1) (v := .ref (ad 3)) (C := R_P) (T := F_P) (N := 3) hx hb hts (fun w h => gm (i_P w h)) hown hK G.1 1 rfl rfl 0 (by decide) (hts _ (gm tw_46)) (fun _ h9 => h9) rfl d_P_keepInside_II_95 ?_
      refine lv_iload_n hx hb d_P_keepInside_II_98 rfl (lv_at hl 8 rfl) ?_
      refine va_lald hx hb hK G.1 3 0 rfl rfl hk_x2 d_P_keepInside_II_99 ?_
      refine lv_aload_n hx hb d_P_keepInside_II_100 rfl (lv_at hl 6 rfl) ?_
      refine va_get (D := (dC, dI)) (ci := 1) (v := .ref (ad 4)) (C := R_P) (T := F_P) (N := 3) hx hb hts (fun w h => gm (i_P w h)) hown hK G.1 1 rfl rfl 1 (by decide) (hts _ (gm tw_47)) (fun _ h9 => h9) rfl d_P_keepInside_II_101 ?_
      refine lv_iconst (v := 5) hx hb d_P_keepInside_II_104 (by decide) ?_
      refine va_lald hx hb hK G.1 4 0 rfl rfl (in_of (by decide) (by decide)) d_P_keepInside_II_105 ?_
      refine pu_l (As := [.long (sR S8 x2.toNatClampNeg), .long (sF S8 (5 : Int32).toNatClampNeg)]) (rest := [.int x2, .ref (ad 3)]) ⟨hx, hb, hml, hown, hts⟩ (c_I_product_JJ l _ (sR S8 x2.toNatClampNeg) (sF S8 (5 : Int32).toNatClampNeg)) pu_pre (gw_call (k := 2) hts tw_174 tw_175 tw_5 tw_176 (by decide +kernel) rfl rfl ⟨Nat.le_of_ble_eq_true rfl, Nat.le_of_ble_eq_true rfl⟩) rfl hl.1 rfl (Nat.le_of_ble_eq_true rfl) ⟨Nat.zero_le _, Nat.zero_le _⟩ d_P_keepInside_II_106 ?_
      refine pu_l (As := [.long (f_I_product_JJ (sR S8 x2.toNatClampNeg) (sF S8 (5 : Int32).toNatClampNeg))]) (rest := [.int x2, .ref (ad 3)]) ⟨hx, hb, hml, hown, hts⟩ (c_I_negated_J l _ (f_I_product_JJ (sR S8 x2.toNatClampNeg) (sF S8 (5 : Int32).toNatClampNeg))) pu_pre (gw_call (k := 1) hts tw_262 tw_263 tw_5 tw_264 (by decide +kernel) rfl rfl ⟨Nat.le_of_ble_eq_true rfl, Nat.le_of_ble_eq_true rfl⟩) rfl hl.1 rfl (Nat.le_of_ble_eq_true rfl) ⟨Nat.zero_le _, Nat.zero_le _⟩ d_P_keepInside_II_109 ?_
      obtain ⟨S9, e9⟩ : ∃ z : CS, z = u_sR S8 (vp_updL (sR S8) x2.toNatClampNeg (f_I_negated_J (f_I_product_JJ (sR S8 x2.toNatClampNeg) (sF S8 (5 : Int32).toNatClampNeg)))) := ⟨_, rfl⟩
      refine hg_last hx hb hK G 3 0 rfl rfl hk_x2 d_P_keepInside_II_112 (cW ad cJ cI S9) (by rw [e9]; rfl) (fun H locs G => ?_)
      exact hg_vret hx hb hr hlocks hK hAe G (by have qe1 := e1.symm; have qe2 := e2.symm; have qe3 := e3.symm; have qe4 := e4.symm; have qe7 := e7.symm; have qe8 := e8.symm; have qe9 := e9.symm; subst qe1 qe2 qe3 qe4 qe7 qe8 qe9; have e9 : f_P_keepInside_II S x1 x2 = _ := (Eq.trans (if_neg c5) (if_pos c6)); exact Eq.symm (congrArg (cW ad cJ cI) e9)) d_P_keepInside_II_113
    · refine lv_lload hx hb d_P_keepInside_II_50 (lv_at hl 2 rfl) ?_
      refine lv_goto (tgt := 57) hx hb d_P_keepInside_II_52 (by decide) ?_
      refine lv_lstore (lv' := [(10, .long v2), (9, .int v4), (7, .long v3), (5, .long v2), (3, .long v1), (0, .ref (ad 1)), (1, .int x1), (2, .int x2)]) hx hb d_P_keepInside_II_57 hl (by decide) rfl (fun ls hl => ?_)
      refine lv_lload_n hx hb d_P_keepInside_II_59 rfl (lv_at hl 4 rfl) ?_
      refine lv_lload hx hb d_P_keepInside_II_60 (lv_at hl 0 rfl) ?_
      refine pu_l (As := [.long v1, .long v2]) (rest := []) ⟨hx, hb, hml, hown, hts⟩ (c_I_difference_JJ l _ v1 v2) pu_pre (gw_call (k := 2) hts tw_188 tw_189 tw_5 tw_190 (by decide +kernel) rfl rfl ⟨Nat.le_of_ble_eq_true rfl, Nat.le_of_ble_eq_true rfl⟩) rfl hl.1 rfl (Nat.le_of_ble_eq_true rfl) ⟨Nat.zero_le _, Nat.zero_le _⟩ d_P_keepInside_II_62 ?_
      refine lv_topl (fun v10 e10 => ?_)
      refine lv_lstore (lv' := [(12, .long v10), (10, .long v2), (9, .int v4), (7, .long v3), (5, .long v2), (3, .long v1), (0, .ref (ad 1)), (1, .int x1), (2, .int x2)]) hx hb d_P_keepInside_II_65 hl (by decide) rfl (fun ls hl => ?_)
      refine lv_aload_n hx hb d_P_keepInside_II_67 rfl (lv_at hl 6 rfl) ?_
      refine va_get (D := (dC, dI)) (ci := 1) (v := .ref (ad 3)) (C := R_P) (T := F_P) (N := 3) hx hb hts (fun w h => gm (i_P w h)) hown hK G.1 1 rfl rfl 0 (by decide) (hts _ (gm tw_46)) (fun _ h9 => h9) rfl d_P_keepInside_II_68 ?_
      refine lv_iload_n hx hb d_P_keepInside_II_71 rfl (lv_at hl 7 rfl) ?_
      refine lv_lload hx hb d_P_keepInside_II_72 (lv_at hl 1 rfl) ?_
      refine lv_lload hx hb d_P_keepInside_II_74 (lv_at hl 0 rfl) ?_
      refine lv_aload_n hx hb d_P_keepInside_II_76 rfl (lv_at hl 6 rfl) ?_
      refine va_get (D := (dC, dI)) (ci := 1) (v := .ref (ad 4)) (C := R_P) (T := F_P) (N := 3) hx hb hts (fun w h => gm (i_P w h)) hown hK G.1 1 rfl rfl 1 (by decide) (hts _ (gm tw_47)) (fun _ h9 => h9) rfl d_P_keepInside_II_77 ?_
      refine lv_iconst (v := 5) hx hb d_P_keepInside_II_80 (by decide) ?_
      refine va_lald hx hb hK G.1 4 0 rfl rfl (in_of (by decide) (by decide)) d_P_keepInside_II_81 ?_
      refine pu_l (As := [.long v10, .long (sF S (5 : Int32).toNatClampNeg)]) (rest := [.long v2, .int x1, .ref (ad 3)]) ⟨hx, hb, hml, hown, hts⟩ (c_I_product_JJ l _ v10 (sF S (5 : Int32).toNatClampNeg)) pu_pre (gw_call (k := 2) hts tw_174 tw_175 tw_5 tw_176 (by decide +kernel) rfl rfl ⟨Nat.le_of_ble_eq_true rfl, Nat.le_of_ble_eq_true rfl⟩) rfl hl.1 rfl (Nat.le_of_ble_eq_true rfl) ⟨Nat.zero_le _, Nat.zero_le _⟩ d_P_keepInside_II_82 ?_
      refine pu_l (As := [.long v2, .long (f_I_product_JJ v10 (sF S (5 : Int32).toNatClampNeg))]) (rest := [.int x1, .ref (ad 3)]) ⟨hx, hb, hml, hown, hts⟩ (c_I_difference_JJ l _ v2 (f_I_product_JJ v10 (sF S (5 : Int32).toNatClampNeg))) pu_pre (gw_call (k := 2) hts tw_188 tw_189 tw_5 tw_190 (by decide +kernel) rfl rfl ⟨Nat.le_of_ble_eq_true rfl, Nat.le_of_ble_eq_true rfl⟩) rfl hl.1 rfl (Nat.le_of_ble_eq_true rfl) ⟨Nat.zero_le _, Nat.zero_le _⟩ d_P_keepInside_II_85 ?_
      obtain ⟨S11, e11⟩ : ∃ z : CS, z = u_sR S (vp_updL (sR S) x1.toNatClampNeg (f_I_difference_JJ v2 (f_I_product_JJ v10 (sF S (5 : Int32).toNatClampNeg)))) := ⟨_, rfl⟩
      refine hg_last hx hb hK G 3 0 rfl rfl hk_x1 d_P_keepInside_II_88 (cW ad cJ cI S11) (by rw [e11]; rfl) (fun H locs G => ?_)
      refine lv_aload_n hx hb d_P_keepInside_II_89 rfl (lv_at hl 6 rfl) ?_
      refine va_get (D := (dC, dI)) (ci := 1) (v := .ref (ad 3)) (C := R_P) (T := F_P) (N := 3) hx hb hts (fun w h => gm (i_P w h)) hown hK G.1 1 rfl rfl 0 (by decide) (hts _ (gm tw_46)) (fun _ h9 => h9) rfl d_P_keepInside_II_90 ?_
      refine lv_iload_n hx hb d_P_keepInside_II_93 rfl (lv_at hl 8 rfl) ?_
      refine lv_aload_n hx hb d_P_keepInside_II_94 rfl (lv_at hl 6 rfl) ?_
      refine va_get (D := (dC, dI)) (ci := 1) (v := .ref (ad 3)) (C := R_P) (T := F_P) (N := 3) hx hb hts (fun w h => gm (i_P w h)) hown hK G.1 1 rfl rfl 0 (by decide) (hts _ (gm tw_46)) (fun _ h9 => h9) rfl d_P_keepInside_II_95 ?_
      refine lv_iload_n hx hb d_P_keepInside_II_98 rfl (lv_at hl 8 rfl) ?_
      refine va_lald hx hb hK G.1 3 0 rfl rfl hk_x2 d_P_keepInside_II_99 ?_
      refine lv_aload_n hx hb d_P_keepInside_II_100 rfl (lv_at hl 6 rfl) ?_
      refine va_get (D := (dC, dI)) (ci := 1) (v := .ref (ad 4)) (C := R_P) (T := F_P) (N := 3) hx hb hts (fun w h => gm (i_P w h)) hown hK G.1 1 rfl rfl 1 (by decide) (hts _ (gm tw_47)) (fun _ h9 => h9) rfl d_P_keepInside_II_101 ?_
      refine lv_iconst (v := 5) hx hb d_P_keepInside_II_104 (by decide) ?_
      refine va_lald hx hb hK G.1 4 0 rfl rfl (in_of (by decide) (by decide)) d_P_keepInside_II_105 ?_
      refine pu_l (As := [.long (sR S11 x2.toNatClampNeg), .long (sF S11 (5 : Int32).toNatClampNeg)]) (rest := [.int x2, .ref (ad 3)]) ⟨hx, hb, hml, hown, hts⟩ (c_I_product_JJ l _ (sR S11 x2.toNatClampNeg) (sF S11 (5 : Int32).toNatClampNeg)) pu_pre (gw_call (k := 2) hts tw_174 tw_175 tw_5 tw_176 (by decide +kernel) rfl rfl ⟨Nat.le_of_ble_eq_true rfl, Nat.le_of_ble_eq_true rfl⟩) rfl hl.1 rfl (Nat.le_of_ble_eq_true rfl) ⟨Nat.zero_le _, Nat.zero_le _⟩ d_P_keepInside_II_106 ?_
      refine pu_l (As := [.long (f_I_product_JJ (sR S11 x2.toNatClampNeg) (sF S11 (5 : Int32).toNatClampNeg))]) (rest := [.int x2, .ref (ad 3)]) ⟨hx, hb, hml, hown, hts⟩ (c_I_negated_J l _ (f_I_product_JJ (sR S11 x2.toNatClampNeg) (sF S11 (5 : Int32).toNatClampNeg))) pu_pre (gw_call (k := 1) hts tw_262 tw_263 tw_5 tw_264 (by decide +kernel) rfl rfl ⟨Nat.le_of_ble_eq_true rfl, Nat.le_of_ble_eq_true rfl⟩) rfl hl.1 rfl (Nat.le_of_ble_eq_true rfl) ⟨Nat.zero_le _, Nat.zero_le _⟩ d_P_keepInside_II_109 ?_
      obtain ⟨S12, e12⟩ : ∃ z : CS, z = u_sR S11 (vp_updL (sR S11) x2.toNatClampNeg (f_I_negated_J (f_I_product_JJ (sR S11 x2.toNatClampNeg) (sF S11 (5 : Int32).toNatClampNeg)))) := ⟨_, rfl⟩
      refine hg_last hx hb hK G 3 0 rfl rfl hk_x2 d_P_keepInside_II_112 (cW ad cJ cI S12) (by rw [e12]; rfl) (fun H locs G => ?_)
      exact hg_vret hx hb hr hlocks hK hAe G (by have qe1 := e1.symm; have qe2 := e2.symm; have qe3 := e3.symm; have qe4 := e4.symm; have qe10 := e10.symm; have qe11 := e11.symm; have qe12 := e12.symm; subst qe1 qe2 qe3 qe4 qe10 qe11 qe12; have e9 : f_P_keepInside_II S x1 x2 = _ := (Eq.trans (if_neg c5) (if_neg c6)); exact Eq.symm (congrArg (cW ad cJ cI) e9)) d_P_keepInside_II_113
  · refine lv_lload_n hx hb d_P_keepInside_II_35 rfl (lv_at hl 3 rfl) ?_
    refine lv_lload hx hb d_P_keepInside_II_36 (lv_at hl 1 rfl) ?_
    refine pu_i (As := [.long v1, .long v3]) (rest := []) ⟨hx, hb, hml, hown, hts⟩ (c_I_less_JJ l _ v1 v3) pu_pre (gw_call (k := 2) hts tw_230 tw_231 tw_5 tw_232 (by decide +kernel) rfl rfl ⟨Nat.le_of_ble_eq_true rfl, Nat.le_of_ble_eq_true rfl⟩) rfl hl.1 rfl (Nat.le_of_ble_eq_true rfl) ⟨Nat.zero_le _, Nat.zero_le _⟩ d_P_keepInside_II_38 ?_
    refine lv_if_ne (tgt := 45) hx hb d_P_keepInside_II_41 (by decide) (fun c13 => ?_) (fun c13 => ?_)
    · refine lv_iload hx hb d_P_keepInside_II_45 (lv_at hl 0 rfl) ?_
      refine lv_if_eq (tgt := 55) hx hb d_P_keepInside_II_47 (by decide) (fun c14 => ?_) (fun c14 => ?_)
      · refine lv_lload hx hb d_P_keepInside_II_55 (lv_at hl 1 rfl) ?_
        refine lv_lstore (lv' := [(10, .long v3), (9, .int v4), (7, .long v3), (5, .long v2), (3, .long v1), (0, .ref (ad 1)), (1, .int x1), (2, .int x2)]) hx hb d_P_keepInside_II_57 hl (by decide) rfl (fun ls hl => ?_)
        refine lv_lload_n hx hb d_P_keepInside_II_59 rfl (lv_at hl 4 rfl) ?_
        refine lv_lload hx hb d_P_keepInside_II_60 (lv_at hl 0 rfl) ?_
        refine pu_l (As := [.long v1, .long v3]) (rest := []) ⟨hx, hb, hml, hown, hts⟩ (c_I_difference_JJ l _ v1 v3) pu_pre (gw_call (k := 2) hts tw_188 tw_189 tw_5 tw_190 (by decide +kernel) rfl rfl ⟨Nat.le_of_ble_eq_true rfl, Nat.le_of_ble_eq_true rfl⟩) rfl hl.1 rfl (Nat.le_of_ble_eq_true rfl) ⟨Nat.zero_le _, Nat.zero_le _⟩ d_P_keepInside_II_62 ?_
        refine lv_topl (fun v15 e15 => ?_)
        refine lv_lstore (lv' := [(12, .long v15), (10, .long v3), (9, .int v4), (7, .long v3), (5, .long v2), (3, .long v1), (0, .ref (ad 1)), (1, .int x1), (2, .int x2)]) hx hb d_P_keepInside_II_65 hl (by decide) rfl (fun ls hl => ?_)
        refine lv_aload_n hx hb d_P_keepInside_II_67 rfl (lv_at hl 6 rfl) ?_
        refine va_get (D := (dC, dI)) (ci := 1) (v := .ref (ad 3)) (C := R_P) (T := F_P) (N := 3) hx hb hts (fun w h => gm (i_P w h)) hown hK G.1 1 rfl rfl 0 (by decide) (hts _ (gm tw_46)) (fun _ h9 => h9) rfl d_P_keepInside_II_68 ?_
        refine lv_iload_n hx hb d_P_keepInside_II_71 rfl (lv_at hl 7 rfl) ?_
        refine lv_lload hx hb d_P_keepInside_II_72 (lv_at hl 1 rfl) ?_
        refine lv_lload hx hb d_P_keepInside_II_74 (lv_at hl 0 rfl) ?_
        refine lv_aload_n hx hb d_P_keepInside_II_76 rfl (lv_at hl 6 rfl) ?_
        refine va_get (D := (dC, dI)) (ci := 1) (v := .ref (ad 4)) (C := R_P) (T := F_P) (N := 3) hx hb hts (fun w h => gm (i_P w h)) hown hK G.1 1 rfl rfl 1 (by decide) (hts _ (gm tw_47)) (fun _ h9 => h9) rfl d_P_keepInside_II_77 ?_
        refine lv_iconst (v := 5) hx hb d_P_keepInside_II_80 (by decide) ?_
        refine va_lald hx hb hK G.1 4 0 rfl rfl (in_of (by decide) (by decide)) d_P_keepInside_II_81 ?_
        refine pu_l (As := [.long v15, .long (sF S (5 : Int32).toNatClampNeg)]) (rest := [.long v3, .int x1, .ref (ad 3)]) ⟨hx, hb, hml, hown, hts⟩ (c_I_product_JJ l _ v15 (sF S (5 : Int32).toNatClampNeg)) pu_pre (gw_call (k := 2) hts tw_174 tw_175 tw_5 tw_176 (by decide +kernel) rfl rfl ⟨Nat.le_of_ble_eq_true rfl, Nat.le_of_ble_eq_true rfl⟩) rfl hl.1 rfl (Nat.le_of_ble_eq_true rfl) ⟨Nat.zero_le _, Nat.zero_le _⟩ d_P_keepInside_II_82 ?_
        refine pu_l (As := [.long v3, .long (f_I_product_JJ v15 (sF S (5 : Int32).toNatClampNeg))]) (rest := [.int x1, .ref (ad 3)]) ⟨hx, hb, hml, hown, hts⟩ (c_I_difference_JJ l _ v3 (f_I_product_JJ v15 (sF S (5 : Int32).toNatClampNeg))) pu_pre (gw_call (k := 2) hts tw_188 tw_189 tw_5 tw_190 (by decide +kernel) rfl rfl ⟨Nat.le_of_ble_eq_true rfl, Nat.le_of_ble_eq_true rfl⟩) rfl hl.1 rfl (Nat.le_of_ble_eq_true rfl) ⟨Nat.zero_le _, Nat.zero_le _⟩ d_P_keepInside_II_85 ?_
        obtain ⟨S16, e16⟩ : ∃ z : CS, z = u_sR S (vp_updL (sR S) x1.toNatClampNeg (f_I_difference_JJ v3 (f_I_product_JJ v15 (sF S (5 : Int32).toNatClampNeg)))) := ⟨_, rfl⟩
        refine hg_last hx hb hK G 3 0 rfl rfl hk_x1 d_P_keepInside_II_88 (cW ad cJ cI S16) (by rw [e16]; rfl) (fun H locs G => ?_)
        refine lv_aload_n hx hb d_P_keepInside_II_89 rfl (lv_at hl 6 rfl) ?_
        refine va_get (D := (dC, dI)) (ci := 1) (v := .ref (ad 3)) (C := R_P) (T := F_P) (N := 3) hx hb hts (fun w h => gm (i_P w h)) hown hK G.1 1 rfl rfl 0 (by decide) (hts _ (gm tw_46)) (fun _ h9 => h9) rfl d_P_keepInside_II_90 ?_
        refine lv_iload_n hx hb d_P_keepInside_II_93 rfl (lv_at hl 8 rfl) ?_
        refine lv_aload_n hx hb d_P_keepInside_II_94 rfl (lv_at hl 6 rfl) ?_
        refine va_get (D := (dC, dI)) (ci := 1) (v := .ref (ad 3)) (C := R_P) (T := F_P) (N := 3) hx hb hts (fun w h => gm (i_P w h)) hown hK G.1 1 rfl rfl 0 (by decide) (hts _ (gm tw_46)) (fun _ h9 => h9) rfl d_P_keepInside_II_95 ?_
        refine lv_iload_n hx hb d_P_keepInside_II_98 rfl (lv_at hl 8 rfl) ?_
        refine va_lald hx hb hK G.1 3 0 rfl rfl hk_x2 d_P_keepInside_II_99 ?_
        refine lv_aload_n hx hb d_P_keepInside_II_100 rfl (lv_at hl 6 rfl) ?_
        refine va_get (D := (dC, dI)) (ci := 1) (v := .ref (ad 4)) (C := R_P) (T := F_P) (N := 3) hx hb hts (fun w h => gm (i_P w h)) hown hK G.1 1 rfl rfl 1 (by decide) (hts _ (gm tw_47)) (fun _ h9 => h9) rfl d_P_keepInside_II_101 ?_
        refine lv_iconst (v := 5) hx hb d_P_keepInside_II_104 (by decide) ?_
        refine va_lald hx hb hK G.1 4 0 rfl rfl (in_of (by decide) (by decide)) d_P_keepInside_II_105 ?_
        refine pu_l (As := [.long (sR S16 x2.toNatClampNeg), .long (sF S16 (5 : Int32).toNatClampNeg)]) (rest := [.int x2, .ref (ad 3)]) ⟨hx, hb, hml, hown, hts⟩ (c_I_product_JJ l _ (sR S16 x2.toNatClampNeg) (sF S16 (5 : Int32).toNatClampNeg)) pu_pre (gw_call (k := 2) hts tw_174 tw_175 tw_5 tw_176 (by decide +kernel) rfl rfl ⟨Nat.le_of_ble_eq_true rfl, Nat.le_of_ble_eq_true rfl⟩) rfl hl.1 rfl (Nat.le_of_ble_eq_true rfl) ⟨Nat.zero_le _, Nat.zero_le _⟩ d_P_keepInside_II_106 ?_
        refine pu_l (As := [.long (f_I_product_JJ (sR S16 x2.toNatClampNeg) (sF S16 (5 : Int32).toNatClampNeg))]) (rest := [.int x2, .ref (ad 3)]) ⟨hx, hb, hml, hown, hts⟩ (c_I_negated_J l _ (f_I_product_JJ (sR S16 x2.toNatClampNeg) (sF S16 (5 : Int32).toNatClampNeg))) pu_pre (gw_call (k := 1) hts tw_262 tw_263 tw_5 tw_264 (by decide +kernel) rfl rfl ⟨Nat.le_of_ble_eq_true rfl, Nat.le_of_ble_eq_true rfl⟩) rfl hl.1 rfl (Nat.le_of_ble_eq_true rfl) ⟨Nat.zero_le _, Nat.zero_le _⟩ d_P_keepInside_II_109 ?_
        obtain ⟨S17, e17⟩ : ∃ z : CS, z = u_sR S16 (vp_updL (sR S16) x2.toNatClampNeg (f_I_negated_J (f_I_product_JJ (sR S16 x2.toNatClampNeg) (sF S16 (5 : Int32).toNatClampNeg)))) := ⟨_, rfl⟩
        refine hg_last hx hb hK G 3 0 rfl rfl hk_x2 d_P_keepInside_II_112 (cW ad cJ cI S17) (by rw [e17]; rfl) (fun H locs G => ?_)
        exact hg_vret hx hb hr hlocks hK hAe G (by have qe1 := e1.symm; have qe2 := e2.symm; have qe3 := e3.symm; have qe4 := e4.symm; have qe15 := e15.symm; have qe16 := e16.symm; have qe17 := e17.symm; subst qe1 qe2 qe3 qe4 qe15 qe16 qe17; have e9 : f_P_keepInside_II S x1 x2 = _ := (Eq.trans (if_pos c5) (Eq.trans (if_neg c13) (if_pos c14))); exact Eq.symm (congrArg (cW ad cJ cI) e9)) d_P_keepInside_II_113
      · refine lv_lload hx hb d_P_keepInside_II_50 (lv_at hl 2 rfl) ?_
        refine lv_goto (tgt := 57) hx hb d_P_keepInside_II_52 (by decide) ?_
        refine lv_lstore (lv' := [(10, .long v2), (9, .int v4), (7, .long v3), (5, .long v2), (3, .long v1), (0, .ref (ad 1)), (1, .int x1), (2, .int x2)]) hx hb d_P_keepInside_II_57 hl (by decide) rfl (fun ls hl => ?_)
        refine lv_lload_n hx hb d_P_keepInside_II_59 rfl (lv_at hl 4 rfl) ?_
        refine lv_lload hx hb d_P_keepInside_II_60 (lv_at hl 0 rfl) ?_
        refine pu_l (As := [.long v1, .long v2]) (rest := []) ⟨hx, hb, hml, hown, hts⟩ (c_I_difference_JJ l _ v1 v2) pu_pre (gw_call (k := 2) hts tw_188 tw_189 tw_5 tw_190 (by decide +kernel) rfl rfl ⟨Nat.le_of_ble_eq_true rfl, Nat.le_of_ble_eq_true rfl⟩) rfl hl.1 rfl (Nat.le_of_ble_eq_true rfl) ⟨Nat.zero_le _, Nat.zero_le _⟩ d_P_keepInside_II_62 ?_
        refine lv_topl (fun v18 e18 => ?_)
        refine lv_lstore (lv' := [(12, .long v18), (10, .long v2), (9, .int v4), (7, .long v3), (5, .long v2), (3, .long v1), (0, .ref (ad 1)), (1, .int x1), (2, .int x2)]) hx hb d_P_keepInside_II_65 hl (by decide) rfl (fun ls hl => ?_)
        refine lv_aload_n hx hb d_P_keepInside_II_67 rfl (lv_at hl 6 rfl) ?_
        refine va_get (D := (dC, dI)) (ci := 1) (v := .ref (ad 3)) (C := R_P) (T := F_P) (N := 3) hx hb hts (fun w h => gm (i_P w h)) hown hK G.1 1 rfl rfl 0 (by decide) (hts _ (gm tw_46)) (fun _ h9 => h9) rfl d_P_keepInside_II_68 ?_
        refine lv_iload_n hx hb d_P_keepInside_II_71 rfl (lv_at hl 7 rfl) ?_
        refine lv_lload hx hb d_P_keepInside_II_72 (lv_at hl 1 rfl) ?_
        refine lv_lload hx hb d_P_keepInside_II_74 (lv_at hl 0 rfl) ?_
        refine lv_aload_n hx hb d_P_keepInside_II_76 rfl (lv_at hl 6 rfl) ?_
        refine va_get (D := (dC, dI)) (ci := 1) (v := .ref (ad 4)) (C := R_P) (T := F_P) (N := 3) hx hb hts (fun w h => gm (i_P w h)) hown hK G.1 1 rfl rfl 1 (by decide) (hts _ (gm tw_47)) (fun _ h9 => h9) rfl d_P_keepInside_II_77 ?_
        refine lv_iconst (v := 5) hx hb d_P_keepInside_II_80 (by decide) ?_
        refine va_lald hx hb hK G.1 4 0 rfl rfl (in_of (by decide) (by decide)) d_P_keepInside_II_81 ?_
        refine pu_l (As := [.long v18, .long (sF S (5 : Int32).toNatClampNeg)]) (rest := [.long v2, .int x1, .ref (ad 3)]) ⟨hx, hb, hml, hown, hts⟩ (c_I_product_JJ l _ v18 (sF S (5 : Int32).toNatClampNeg)) pu_pre (gw_call (k := 2) hts tw_174 tw_175 tw_5 tw_176 (by decide +kernel) rfl rfl ⟨Nat.le_of_ble_eq_true rfl, Nat.le_of_ble_eq_true rfl⟩) rfl hl.1 rfl (Nat.le_of_ble_eq_true rfl) ⟨Nat.zero_le _, Nat.zero_le _⟩ d_P_keepInside_II_82 ?_
        refine pu_l (As := [.long v2, .long (f_I_product_JJ v18 (sF S (5 : Int32).toNatClampNeg))]) (rest := [.int x1, .ref (ad 3)]) ⟨hx, hb, hml, hown, hts⟩ (c_I_difference_JJ l _ v2 (f_I_product_JJ v18 (sF S (5 : Int32).toNatClampNeg))) pu_pre (gw_call (k := 2) hts tw_188 tw_189 tw_5 tw_190 (by decide +kernel) rfl rfl ⟨Nat.le_of_ble_eq_true rfl, Nat.le_of_ble_eq_true rfl⟩) rfl hl.1 rfl (Nat.le_of_ble_eq_true rfl) ⟨Nat.zero_le _, Nat.zero_le _⟩ d_P_keepInside_II_85 ?_
        obtain ⟨S19, e19⟩ : ∃ z : CS, z = u_sR S (vp_updL (sR S) x1.toNatClampNeg (f_I_difference_JJ v2 (f_I_product_JJ v18 (sF S (5 : Int32).toNatClampNeg)))) := ⟨_, rfl⟩
        refine hg_last hx hb hK G 3 0 rfl rfl hk_x1 d_P_keepInside_II_88 (cW ad cJ cI S19) (by rw [e19]; rfl) (fun H locs G => ?_)
        refine lv_aload_n hx hb d_P_keepInside_II_89 rfl (lv_at hl 6 rfl) ?_
        refine va_get (D := (dC, dI)) (ci := 1) (v := .ref (ad 3)) (C := R_P) (T := F_P) (N := 3) hx hb hts (fun w h => gm (i_P w h)) hown hK G.1 1 rfl rfl 0 (by decide) (hts _ (gm tw_46)) (fun _ h9 => h9) rfl d_P_keepInside_II_90 ?_
        refine lv_iload_n hx hb d_P_keepInside_II_93 rfl (lv_at hl 8 rfl) ?_
        refine lv_aload_n hx hb d_P_keepInside_II_94 rfl (lv_at hl 6 rfl) ?_
        refine va_get (D := (dC, dI)) (ci := 1) (v := .ref (ad 3)) (C := R_P) (T := F_P) (N := 3) hx hb hts (fun w h => gm (i_P w h)) hown hK G.1 1 rfl rfl 0 (by decide) (hts _ (gm tw_46)) (fun _ h9 => h9) rfl d_P_keepInside_II_95 ?_
        refine lv_iload_n hx hb d_P_keepInside_II_98 rfl (lv_at hl 8 rfl) ?_
        refine va_lald hx hb hK G.1 3 0 rfl rfl hk_x2 d_P_keepInside_II_99 ?_
        refine lv_aload_n hx hb d_P_keepInside_II_100 rfl (lv_at hl 6 rfl) ?_
        refine va_get (D := (dC, dI)) (ci := 1) (v := .ref (ad 4)) (C := R_P) (T := F_P) (N := 3) hx hb hts (fun w h => gm (i_P w h)) hown hK G.1 1 rfl rfl 1 (by decide) (hts _ (gm tw_47)) (fun _ h9 => h9) rfl d_P_keepInside_II_101 ?_
        refine lv_iconst (v := 5) hx hb d_P_keepInside_II_104 (by decide) ?_
        refine va_lald hx hb hK G.1 4 0 rfl rfl (in_of (by decide) (by decide)) d_P_keepInside_II_105 ?_
        refine pu_l (As := [.long (sR S19 x2.toNatClampNeg), .long (sF S19 (5 : Int32).toNatClampNeg)]) (rest := [.int x2, .ref (ad 3)]) ⟨hx, hb, hml, hown, hts⟩ (c_I_product_JJ l _ (sR S19 x2.toNatClampNeg) (sF S19 (5 : Int32).toNatClampNeg)) pu_pre (gw_call (k := 2) hts tw_174 tw_175 tw_5 tw_176 (by decide +kernel) rfl rfl ⟨Nat.le_of_ble_eq_true rfl, Nat.le_of_ble_eq_true rfl⟩) rfl hl.1 rfl (Nat.le_of_ble_eq_true rfl) ⟨Nat.zero_le _, Nat.zero_le _⟩ d_P_keepInside_II_106 ?_
        refine pu_l (As := [.long (f_I_product_JJ (sR S19 x2.toNatClampNeg) (sF S19 (5 : Int32).toNatClampNeg))]) (rest := [.int x2, .ref (ad 3)]) ⟨hx, hb, hml, hown, hts⟩ (c_I_negated_J l _ (f_I_product_JJ (sR S19 x2.toNatClampNeg) (sF S19 (5 : Int32).toNatClampNeg))) pu_pre (gw_call (k := 1) hts tw_262 tw_263 tw_5 tw_264 (by decide +kernel) rfl rfl ⟨Nat.le_of_ble_eq_true rfl, Nat.le_of_ble_eq_true rfl⟩) rfl hl.1 rfl (Nat.le_of_ble_eq_true rfl) ⟨Nat.zero_le _, Nat.zero_le _⟩ d_P_keepInside_II_109 ?_
        obtain ⟨S20, e20⟩ : ∃ z : CS, z = u_sR S19 (vp_updL (sR S19) x2.toNatClampNeg (f_I_negated_J (f_I_product_JJ (sR S19 x2.toNatClampNeg) (sF S19 (5 : Int32).toNatClampNeg)))) := ⟨_, rfl⟩
        refine hg_last hx hb hK G 3 0 rfl rfl hk_x2 d_P_keepInside_II_112 (cW ad cJ cI S20) (by rw [e20]; rfl) (fun H locs G => ?_)
        exact hg_vret hx hb hr hlocks hK hAe G (by have qe1 := e1.symm; have qe2 := e2.symm; have qe3 := e3.symm; have qe4 := e4.symm; have qe18 := e18.symm; have qe19 := e19.symm; have qe20 := e20.symm; subst qe1 qe2 qe3 qe4 qe18 qe19 qe20; have e9 : f_P_keepInside_II S x1 x2 = _ := (Eq.trans (if_pos c5) (Eq.trans (if_neg c13) (if_neg c14))); exact Eq.symm (congrArg (cW ad cJ cI) e9)) d_P_keepInside_II_113
    · exact hg_vret hx hb hr hlocks hK hAe G (by have qe1 := e1.symm; have qe2 := e2.symm; have qe3 := e3.symm; have qe4 := e4.symm; subst qe1 qe2 qe3 qe4; have e9 : f_P_keepInside_II S x1 x2 = _ := (Eq.trans (if_pos c5) (if_pos c13)); exact Eq.symm (congrArg (cW ad cJ cI) e9)) d_P_keepInside_II_44
theorem kp_inside (S : CS) (x y : Int32) : sB (f_P_keepInside_II S x y) = sB S ∧ sC (f_P_keepInside_II S x y) = sC S := by unfold f_P_keepInside_II; dsimp only; (repeat' split) <;> exact ⟨rfl, rfl⟩
