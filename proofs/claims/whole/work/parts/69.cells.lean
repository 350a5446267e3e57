-- ===== MotionLab$Plane.energyOfSpring(I)J 
abbrev y_P_energyOfSpring_I : MethodName := ⟨"MotionLab$Plane", "energyOfSpring", "(I)J"⟩
abbrev b_P_energyOfSpring_I : ByteArray := prog_3_method_20_code
theorem d_P_energyOfSpring_I_0 : decode b_P_energyOfSpring_I 0 = .ok (.aload_n 0, 1) := by decide +kernel
theorem d_P_energyOfSpring_I_1 : decode b_P_energyOfSpring_I 1 = .ok (.getfield 19, 3) := by decide +kernel
theorem d_P_energyOfSpring_I_4 : decode b_P_energyOfSpring_I 4 = .ok (.iload_n 1, 1) := by decide +kernel
theorem d_P_energyOfSpring_I_5 : decode b_P_energyOfSpring_I 5 = .ok (.invokevirtual 89, 3) := by decide +kernel
theorem d_P_energyOfSpring_I_8 : decode b_P_energyOfSpring_I 8 = .ok (.istore_n 2, 1) := by decide +kernel
theorem d_P_energyOfSpring_I_9 : decode b_P_energyOfSpring_I 9 = .ok (.aload_n 0, 1) := by decide +kernel
theorem d_P_energyOfSpring_I_10 : decode b_P_energyOfSpring_I 10 = .ok (.getfield 19, 3) := by decide +kernel
theorem d_P_energyOfSpring_I_13 : decode b_P_energyOfSpring_I 13 = .ok (.iload_n 1, 1) := by decide +kernel
theorem d_P_energyOfSpring_I_14 : decode b_P_energyOfSpring_I 14 = .ok (.invokevirtual 93, 3) := by decide +kernel
theorem d_P_energyOfSpring_I_17 : decode b_P_energyOfSpring_I 17 = .ok (.istore_n 3, 1) := by decide +kernel
theorem d_P_energyOfSpring_I_18 : decode b_P_energyOfSpring_I 18 = .ok (.aload_n 0, 1) := by decide +kernel
theorem d_P_energyOfSpring_I_19 : decode b_P_energyOfSpring_I 19 = .ok (.getfield 9, 3) := by decide +kernel
theorem d_P_energyOfSpring_I_22 : decode b_P_energyOfSpring_I 22 = .ok (.iconst 0, 1) := by decide +kernel
theorem d_P_energyOfSpring_I_23 : decode b_P_energyOfSpring_I 23 = .ok (.iload_n 3, 1) := by decide +kernel
theorem d_P_energyOfSpring_I_24 : decode b_P_energyOfSpring_I 24 = .ok (.iadd, 1) := by decide +kernel
theorem d_P_energyOfSpring_I_25 : decode b_P_energyOfSpring_I 25 = .ok (.laload, 1) := by decide +kernel
theorem d_P_energyOfSpring_I_26 : decode b_P_energyOfSpring_I 26 = .ok (.aload_n 0, 1) := by decide +kernel
theorem d_P_energyOfSpring_I_27 : decode b_P_energyOfSpring_I 27 = .ok (.getfield 9, 3) := by decide +kernel
theorem d_P_energyOfSpring_I_30 : decode b_P_energyOfSpring_I 30 = .ok (.iconst 0, 1) := by decide +kernel
theorem d_P_energyOfSpring_I_31 : decode b_P_energyOfSpring_I 31 = .ok (.iload_n 2, 1) := by decide +kernel
theorem d_P_energyOfSpring_I_32 : decode b_P_energyOfSpring_I 32 = .ok (.iadd, 1) := by decide +kernel
theorem d_P_energyOfSpring_I_33 : decode b_P_energyOfSpring_I 33 = .ok (.laload, 1) := by decide +kernel
theorem d_P_energyOfSpring_I_34 : decode b_P_energyOfSpring_I 34 = .ok (.invokestatic 70, 3) := by decide +kernel
theorem d_P_energyOfSpring_I_37 : decode b_P_energyOfSpring_I 37 = .ok (.lstore 4, 2) := by decide +kernel
theorem d_P_energyOfSpring_I_39 : decode b_P_energyOfSpring_I 39 = .ok (.aload_n 0, 1) := by decide +kernel
theorem d_P_energyOfSpring_I_40 : decode b_P_energyOfSpring_I 40 = .ok (.getfield 9, 3) := by decide +kernel
theorem d_P_energyOfSpring_I_43 : decode b_P_energyOfSpring_I 43 = .ok (.bipush 8, 2) := by decide +kernel
theorem d_P_energyOfSpring_I_45 : decode b_P_energyOfSpring_I 45 = .ok (.iload_n 3, 1) := by decide +kernel
theorem d_P_energyOfSpring_I_46 : decode b_P_energyOfSpring_I 46 = .ok (.iadd, 1) := by decide +kernel
theorem d_P_energyOfSpring_I_47 : decode b_P_energyOfSpring_I 47 = .ok (.laload, 1) := by decide +kernel
theorem d_P_energyOfSpring_I_48 : decode b_P_energyOfSpring_I 48 = .ok (.aload_n 0, 1) := by decide +kernel
theorem d_P_energyOfSpring_I_49 : decode b_P_energyOfSpring_I 49 = .ok (.getfield 9, 3) := by decide +kernel
theorem d_P_energyOfSpring_I_52 : decode b_P_energyOfSpring_I 52 = .ok (.bipush 8, 2) := by decide +kernel
theorem d_P_energyOfSpring_I_54 : decode b_P_energyOfSpring_I 54 = .ok (.iload_n 2, 1) := by decide +kernel
theorem d_P_energyOfSpring_I_55 : decode b_P_energyOfSpring_I 55 = .ok (.iadd, 1) := by decide +kernel
theorem d_P_energyOfSpring_I_56 : decode b_P_energyOfSpring_I 56 = .ok (.laload, 1) := by decide +kernel
theorem d_P_energyOfSpring_I_57 : decode b_P_energyOfSpring_I 57 = .ok (.invokestatic 70, 3) := by decide +kernel
theorem d_P_energyOfSpring_I_60 : decode b_P_energyOfSpring_I 60 = .ok (.lstore 6, 2) := by decide +kernel
theorem d_P_energyOfSpring_I_62 : decode b_P_energyOfSpring_I 62 = .ok (.lload 4, 2) := by decide +kernel
theorem d_P_energyOfSpring_I_64 : decode b_P_energyOfSpring_I 64 = .ok (.lload 4, 2) := by decide +kernel
theorem d_P_energyOfSpring_I_66 : decode b_P_energyOfSpring_I 66 = .ok (.lload 6, 2) := by decide +kernel
theorem d_P_energyOfSpring_I_68 : decode b_P_energyOfSpring_I 68 = .ok (.lload 6, 2) := by decide +kernel
theorem d_P_energyOfSpring_I_70 : decode b_P_energyOfSpring_I 70 = .ok (.invokestatic 96, 3) := by decide +kernel
theorem d_P_energyOfSpring_I_73 : decode b_P_energyOfSpring_I 73 = .ok (.invokestatic 100, 3) := by decide +kernel
theorem d_P_energyOfSpring_I_76 : decode b_P_energyOfSpring_I 76 = .ok (.lstore 8, 2) := by decide +kernel
theorem d_P_energyOfSpring_I_78 : decode b_P_energyOfSpring_I 78 = .ok (.lload 8, 2) := by decide +kernel
theorem d_P_energyOfSpring_I_80 : decode b_P_energyOfSpring_I 80 = .ok (.aload_n 0, 1) := by decide +kernel
theorem d_P_energyOfSpring_I_81 : decode b_P_energyOfSpring_I 81 = .ok (.getfield 19, 3) := by decide +kernel
theorem d_P_energyOfSpring_I_84 : decode b_P_energyOfSpring_I 84 = .ok (.iload_n 1, 1) := by decide +kernel
theorem d_P_energyOfSpring_I_85 : decode b_P_energyOfSpring_I 85 = .ok (.invokevirtual 110, 3) := by decide +kernel
theorem d_P_energyOfSpring_I_88 : decode b_P_energyOfSpring_I 88 = .ok (.invokestatic 70, 3) := by decide +kernel
theorem d_P_energyOfSpring_I_91 : decode b_P_energyOfSpring_I 91 = .ok (.lstore 10, 2) := by decide +kernel
theorem d_P_energyOfSpring_I_93 : decode b_P_energyOfSpring_I 93 = .ok (.ldc2_w 124, 3) := by decide +kernel
theorem d_P_energyOfSpring_I_96 : decode b_P_energyOfSpring_I 96 = .ok (.aload_n 0, 1) := by decide +kernel
theorem d_P_energyOfSpring_I_97 : decode b_P_energyOfSpring_I 97 = .ok (.getfield 19, 3) := by decide +kernel
theorem d_P_energyOfSpring_I_100 : decode b_P_energyOfSpring_I 100 = .ok (.iload_n 1, 1) := by decide +kernel
theorem d_P_energyOfSpring_I_101 : decode b_P_energyOfSpring_I 101 = .ok (.invokevirtual 107, 3) := by decide +kernel
theorem d_P_energyOfSpring_I_104 : decode b_P_energyOfSpring_I 104 = .ok (.invokestatic 86, 3) := by decide +kernel
theorem d_P_energyOfSpring_I_107 : decode b_P_energyOfSpring_I 107 = .ok (.lstore 12, 2) := by decide +kernel
theorem d_P_energyOfSpring_I_109 : decode b_P_energyOfSpring_I 109 = .ok (.lload 12, 2) := by decide +kernel
theorem d_P_energyOfSpring_I_111 : decode b_P_energyOfSpring_I 111 = .ok (.lload 10, 2) := by decide +kernel
theorem d_P_energyOfSpring_I_113 : decode b_P_energyOfSpring_I 113 = .ok (.invokestatic 86, 3) := by decide +kernel
theorem d_P_energyOfSpring_I_116 : decode b_P_energyOfSpring_I 116 = .ok (.lload 10, 2) := by decide +kernel
theorem d_P_energyOfSpring_I_118 : decode b_P_energyOfSpring_I 118 = .ok (.invokestatic 86, 3) := by decide +kernel
theorem d_P_energyOfSpring_I_121 : decode b_P_energyOfSpring_I 121 = .ok (.lreturn, 1) := by decide +kernel
def f_P_energyOfSpring_I (S : CS) (x1 : Int32) : Int64 :=
  let v1 : Int32 := f_S_firstBody_I S x1
  let v2 : Int32 := f_S_secondBody_I S x1
  let v3 : Int64 := f_I_difference_JJ (sR S ((0 : Int32) + v2).toNatClampNeg) (sR S ((0 : Int32) + v1).toNatClampNeg)
  let v4 : Int64 := f_I_difference_JJ (sR S ((8 : Int32) + v2).toNatClampNeg) (sR S ((8 : Int32) + v1).toNatClampNeg)
  let v5 : Int64 := f_I_root_J (f_I_products_JJJJ v3 v3 v4 v4)
  let v6 : Int64 := f_I_difference_JJ v5 (f_S_length_I S x1)
  let v7 : Int64 := f_I_product_JJ (4602678819172646912 : Int64) (f_S_stiffness_I S x1)
  f_I_product_JJ (f_I_product_JJ v7 v6) v6
set_option maxHeartbeats 4000000 in
set_option maxRecDepth 100000 in
theorem c_P_energyOfSpring_I (l : Launch) (dC : Nat → ClassId) (dI : Nat → Nat → Nat) (ad : Nat → Nat) (cJ cI : ClassId) (S : CS) (x1 : Int32) (hk_x1 : vp_in x1 10) (hb1 : vp_in (f_S_firstBody_I S x1) 8) (hb2 : vp_in (f_S_secondBody_I S x1) 8) (sz : Nat) : hMl l y_P_energyOfSpring_I (gw y_P_energyOfSpring_I b_P_energyOfSpring_I 14 (some .long)) { frames := 5, cells := 0, slots := 0, locals := 133 } [.ref (ad 1), .int x1] (dC, dI) classes (tysJI cJ cI) (fun _ => True) (cW ad cJ cI S) sz (f_P_energyOfSpring_I S x1) (cW ad cJ cI S) := by
  refine Met.ofW (cc := b_P_energyOfSpring_I) (maxL := 14) (ret := (some .long)) (by decide) rfl ?_
  intro p e s m args below meth c s₁ B hml hv
  obtain ⟨rfl, hsz, hP, hK, hD0, hRT⟩ := hv
  have hx := B.exec
  have hb := B.bytes
  have hr := B.returns
  have hts := atoms_spec (ws := (gw y_P_energyOfSpring_I b_P_energyOfSpring_I 14 (some .long))) B.pre
  have hown : s.vm.findClass "MotionLab$Plane" = some m.cls := findClass_of_methodNamed B.named
  have hlocks := B.notSynchronized
  subst hsz
  have hD := hD0.self (sz := s.heap.size)
  generalize hAe : va_A (cW ad cJ cI S) s.heap.size = A at hD
  have hA : ∀ q : Nat, s.heap.size ≤ q → A q := fun q h => by rw [← hAe]; exact Or.inr h
  have G : hG (dC, dI) classes A s.heap (cW ad cJ cI S) s.heap [] := ⟨hP, hD, va_S.rf⟩
  have hl := lv_entry ([.ref (ad 1), .int x1]) (n := 14) (Nat.le_of_ble_eq_true rfl)
  rw [lg_entry_eq]
  generalize (lg_sl ([.ref (ad 1), .int x1]) ++ List.replicate (14 - (lg_sl ([.ref (ad 1), .int x1])).length) Slot.unset).toArray = ls at hl ⊢
  have hl : lv_has ls 14 [(0, .ref (ad 1)), (1, .int x1)] := hl
  refine lv_aload_n hx hb d_P_energyOfSpring_I_0 rfl (lv_at hl 0 rfl) ?_
  refine va_get (D := (dC, dI)) (ci := 1) (v := .ref (ad 5)) (C := R_P) (T := F_P) (N := 3) hx hb hts (fun w h => gm (i_P w h)) hown hK G.1 1 rfl rfl 2 (by decide) (hts _ (gm tw_48)) (fun _ h9 => h9) rfl d_P_energyOfSpring_I_1 ?_
  refine lv_iload_n hx hb d_P_energyOfSpring_I_4 rfl (lv_at hl 1 rfl) ?_
  refine hg_ci (As := [.int x1]) (rest := []) ⟨hx, hb, hml, hown, hts⟩ (c_S_firstBody_I l dC dI ad cJ cI S x1 hk_x1 _) (gw_callV (k := 1) hts tw_207 tw_208 tw_209 tw_3 tw_210 (by decide +kernel) rfl rfl ⟨Nat.le_of_ble_eq_true rfl, Nat.le_of_ble_eq_true rfl⟩) hK G hA (hx_T _ _) 2 5 rfl rfl rfl hl.1 rfl (Nat.le_of_ble_eq_true rfl) ⟨Nat.zero_le _, Nat.zero_le _⟩ d_P_energyOfSpring_I_5 (fun H locs G => ?_)
  refine lv_topi (fun v1 e1 => ?_)
  refine lv_istore_n (lv' := [(2, .int v1), (0, .ref (ad 1)), (1, .int x1)]) hx hb d_P_energyOfSpring_I_8 rfl hl (by decide) rfl (fun ls hl => ?_)
  refine lv_aload_n hx hb d_P_energyOfSpring_I_9 rfl (lv_at hl 1 rfl) ?_
  refine va_get (D := (dC, dI)) (ci := 1) (v := .ref (ad 5)) (C := R_P) (T := F_P) (N := 3) hx hb hts (fun w h => gm (i_P w h)) hown hK G.1 1 rfl rfl 2 (by decide) (hts _ (gm tw_48)) (fun _ h9 => h9) rfl d_P_energyOfSpring_I_10 ?_
  refine lv_iload_n hx hb d_P_energyOfSpring_I_13 rfl (lv_at hl 2 rfl) ?_
  refine hg_ci (As := [.int x1]) (rest := []) ⟨hx, hb, hml, hown, hts⟩ (c_S_secondBody_I l dC dI ad cJ cI S x1 hk_x1 _) (gw_callV (k := 1) hts tw_211 tw_212 tw_213 tw_3 tw_214 (by decide +kernel) rfl rfl ⟨Nat.le_of_ble_eq_true rfl, Nat.le_of_ble_eq_true rfl⟩) hK G hA (hx_T _ _) 2 5 rfl rfl rfl hl.1 rfl (Nat.le_of_ble_eq_true rfl) ⟨Nat.zero_le _, Nat.zero_le _⟩ d_P_energyOfSpring_I_14 (fun H locs G => ?_)
  refine lv_topi (fun v2 e2 => ?_)
  refine lv_istore_n (lv' := [(3, .int v2), (2, .int v1), (0, .ref (ad 1)), (1, .int x1)]) hx hb d_P_energyOfSpring_I_17 rfl hl (by decide) rfl (fun ls hl => ?_)
  refine lv_aload_n hx hb d_P_energyOfSpring_I_18 rfl (lv_at hl 2 rfl) ?_
  refine va_get (D := (dC, dI)) (ci := 1) (v := .ref (ad 3)) (C := R_P) (T := F_P) (N := 3) hx hb hts (fun w h => gm (i_P w h)) hown hK G.1 1 rfl rfl 0 (by decide) (hts _ (gm tw_46)) (fun _ h9 => h9) rfl d_P_energyOfSpring_I_19 ?_
  refine lv_iconst (v := 0) hx hb d_P_energyOfSpring_I_22 (by decide) ?_
  refine lv_iload_n hx hb d_P_energyOfSpring_I_23 rfl (lv_at hl 0 rfl) ?_
  refine lv_iadd hx hb d_P_energyOfSpring_I_24 ?_
  refine va_lald hx hb hK G.1 3 0 rfl rfl (in_al (by rw [e2]; exact hb2) (by decide)) d_P_energyOfSpring_I_25 ?_
  refine lv_aload_n hx hb d_P_energyOfSpring_I_26 rfl (lv_at hl 2 rfl) ?_
  refine va_get (D := (dC, dI)) (ci := 1) (v := .ref (ad 3)) (C := R_P) (T := F_P) (N := 3) hx hb hts (fun w h => gm (i_P w h)) hown hK G.1 1 rfl rfl 0 (by decide) (hts _ (gm tw_46)) (fun _ h9 => h9) rfl d_P_energyOfSpring_I_27 ?_
  refine lv_iconst (v := 0) hx hb d_P_energyOfSpring_I_30 (by decide) ?_
  refine lv_iload_n hx hb d_P_energyOfSpring_I_31 rfl (lv_at hl 1 rfl) ?_
  refine lv_iadd hx hb d_P_energyOfSpring_I_32 ?_
  refine va_lald hx hb hK G.1 3 0 rfl rfl (in_al (by rw [e1]; exact hb1) (by decide)) d_P_energyOfSpring_I_33 ?_
  refine pu_l (As := [.long (sR S ((0 : Int32) + v2).toNatClampNeg), .long (sR S ((0 : Int32) + v1).toNatClampNeg)]) (rest := []) ⟨hx, hb, hml, hown, hts⟩ (c_I_difference_JJ l _ (sR S ((0 : Int32) + v2).toNatClampNeg) (sR S ((0 : Int32) + v1).toNatClampNeg)) pu_pre (gw_call (k := 2) hts tw_188 tw_189 tw_5 tw_190 (by decide +kernel) rfl rfl ⟨Nat.le_of_ble_eq_true rfl, Nat.le_of_ble_eq_true rfl⟩) rfl hl.1 rfl (Nat.le_of_ble_eq_true rfl) ⟨Nat.zero_le _, Nat.zero_le _⟩ d_P_energyOfSpring_I_34 ?_
  refine lv_topl (fun v3 e3 => ?_)
  refine lv_lstore (lv' := [(4, .long v3), (3, .int v2), (2, .int v1), (0, .ref (ad 1)), (1, .int x1)]) hx hb d_P_energyOfSpring_I_37 hl (by decide) rfl (fun ls hl => ?_)
  refine lv_aload_n hx hb d_P_energyOfSpring_I_39 rfl (lv_at hl 3 rfl) ?_
  refine va_get (D := (dC, dI)) (ci := 1) (v := .ref (ad 3)) (C := R_P) (T := F_P) (N := 3) hx hb hts (fun w h => gm (i_P w h)) hown hK G.1 1 rfl rfl 0 (by decide) (hts _ (gm tw_46)) (fun _ h9 => h9) rfl d_P_energyOfSpring_I_40 ?_
  refine lv_bipush (v := (8 : Int32)) hx hb d_P_energyOfSpring_I_43 (by decide) ?_
  refine lv_iload_n hx hb d_P_energyOfSpring_I_45 rfl (lv_at hl 1 rfl) ?_
  refine lv_iadd hx hb d_P_energyOfSpring_I_46 ?_
  refine va_lald hx hb hK G.1 3 0 rfl rfl (in_al (by rw [e2]; exact hb2) (by decide)) d_P_energyOfSpring_I_47 ?_
  refine lv_aload_n hx hb d_P_energyOfSpring_I_48 rfl (lv_at hl 3 rfl) ?_
  refine va_get (D := (dC, dI)) (ci := 1) (v := .ref (ad 3)) (C := R_P) (T := F_P) (N := 3) hx hb hts (fun w h => gm (i_P w h)) hown hK G.1 1 rfl rfl 0 (by decide) (hts _ (gm tw_46)) (fun _ h9 => h9) rfl d_P_energyOfSpring_I_49 ?_
  refine lv_bipush (v := (8 : Int32)) hx hb d_P_energyOfSpring_I_52 (by decide) ?_
  refine lv_iload_n hx hb d_P_energyOfSpring_I_54 rfl (lv_at hl 2 rfl) ?_
  refine lv_iadd hx hb d_P_energyOfSpring_I_55 ?_
  refine va_lald hx hb hK G.1 3 0 rfl rfl (in_al (by rw [e1]; exact hb1) (by decide)) d_P_energyOfSpring_I_56 ?_
  refine pu_l (As := [.long (sR S ((8 : Int32) + v2).toNatClampNeg), .long (sR S ((8 : Int32) + v1).toNatClampNeg)]) (rest := []) ⟨hx, hb, hml, hown, hts⟩ (c_I_difference_JJ l _ (sR S ((8 : Int32) + v2).toNatClampNeg) (sR S ((8 : Int32) + v1).toNatClampNeg)) pu_pre (gw_call (k := 2) hts tw_188 tw_189 tw_5 tw_190 (by decide +kernel) rfl rfl ⟨Nat.le_of_ble_eq_true rfl, Nat.le_of_ble_eq_true rfl⟩) rfl hl.1 rfl (Nat.le_of_ble_eq_true rfl) ⟨Nat.zero_le _, Nat.zero_le _⟩ d_P_energyOfSpring_I_57 ?_
  refine lv_topl (fun v4 e4 => ?_)
  refine lv_lstore (lv' := [(6, .long v4), (4, .long v3), (3, .int v2), (2, .int v1), (0, .ref (ad 1)), (1, .int x1)]) hx hb d_P_energyOfSpring_I_60 hl (by decide) rfl (fun ls hl => ?_)
  refine lv_lload hx hb d_P_energyOfSpring_I_62 (lv_at hl 1 rfl) ?_
  refine lv_lload hx hb d_P_energyOfSpring_I_64 (lv_at hl 1 rfl) ?_
  refine lv_lload hx hb d_P_energyOfSpring_I_66 (lv_at hl 0 rfl) ?_
  refine lv_lload hx hb d_P_energyOfSpring_I_68 (lv_at hl 0 rfl) ?_
  refine pu_l (As := [.long v3, .long v3, .long v4, .long v4]) (rest := []) ⟨hx, hb, hml, hown, hts⟩ (c_I_products_JJJJ l _ v3 v3 v4 v4) pu_pre (gw_call (k := 4) hts tw_215 tw_216 tw_5 tw_217 (by decide +kernel) rfl rfl ⟨Nat.le_of_ble_eq_true rfl, Nat.le_of_ble_eq_true rfl⟩) rfl hl.1 rfl (Nat.le_of_ble_eq_true rfl) ⟨Nat.zero_le _, Nat.zero_le _⟩ d_P_energyOfSpring_I_70 ?_
  refine pu_l (As := [.long (f_I_products_JJJJ v3 v3 v4 v4)]) (rest := []) ⟨hx, hb, hml, hown, hts⟩ (c_I_root_J l _ (f_I_products_JJJJ v3 v3 v4 v4)) pu_pre (gw_call (k := 1) hts tw_219 tw_220 tw_5 tw_221 (by decide +kernel) rfl rfl ⟨Nat.le_of_ble_eq_true rfl, Nat.le_of_ble_eq_true rfl⟩) rfl hl.1 rfl (Nat.le_of_ble_eq_true rfl) ⟨Nat.zero_le _, Nat.zero_le _⟩ d_P_energyOfSpring_I_73 ?_
  refine lv_topl (fun v5 e5 => ?_)
  refine lv_lstore (lv' := [(8, .long v5), (6, .long v4), (4, .long v3), (3, .int v2), (2, .int v1), (0, .ref (ad 1)), (1, .int x1)]) hx hb d_P_energyOfSpring_I_76 hl (by decide) rfl (fun ls hl => ?_)
  refine lv_lload hx hb d_P_energyOfSpring_I_78 (lv_at hl 0 rfl) ?_
  refine lv_aload_n hx hb d_P_energyOfSpring_I_80 rfl (lv_at hl 5 rfl) ?_
  refine va_get (D := (dC, dI)) (ci := 1) (v := .ref (ad 5)) (C := R_P) (T := F_P) (N := 3) hx hb hts (fun w h => gm (i_P w h)) hown hK G.1 1 rfl rfl 2 (by decide) (hts _ (gm tw_48)) (fun _ h9 => h9) rfl d_P_energyOfSpring_I_81 ?_
  refine lv_iload_n hx hb d_P_energyOfSpring_I_84 rfl (lv_at hl 6 rfl) ?_
  refine hg_cl (As := [.int x1]) (rest := [.long v5]) ⟨hx, hb, hml, hown, hts⟩ (c_S_length_I l dC dI ad cJ cI S x1 hk_x1 _) (gw_callV (k := 1) hts tw_240 tw_241 tw_242 tw_3 tw_243 (by decide +kernel) rfl rfl ⟨Nat.le_of_ble_eq_true rfl, Nat.le_of_ble_eq_true rfl⟩) hK G hA (hx_T _ _) 2 5 rfl rfl rfl hl.1 rfl (Nat.le_of_ble_eq_true rfl) ⟨Nat.zero_le _, Nat.zero_le _⟩ d_P_energyOfSpring_I_85 (fun H locs G => ?_)
  refine pu_l (As := [.long v5, .long (f_S_length_I S x1)]) (rest := []) ⟨hx, hb, hml, hown, hts⟩ (c_I_difference_JJ l _ v5 (f_S_length_I S x1)) pu_pre (gw_call (k := 2) hts tw_188 tw_189 tw_5 tw_190 (by decide +kernel) rfl rfl ⟨Nat.le_of_ble_eq_true rfl, Nat.le_of_ble_eq_true rfl⟩) rfl hl.1 rfl (Nat.le_of_ble_eq_true rfl) ⟨Nat.zero_le _, Nat.zero_le _⟩ d_P_energyOfSpring_I_88 ?_
  refine lv_topl (fun v6 e6 => ?_)
  refine lv_lstore (lv' := [(10, .long v6), (8, .long v5), (6, .long v4), (4, .long v3), (3, .int v2), (2, .int v1), (0, .ref (ad 1)), (1, .int x1)]) hx hb d_P_energyOfSpring_I_91 hl (by decide) rfl (fun ls hl => ?_)
  refine lv_ldc2 (v := (4602678819172646912 : Int64)) hx hb hown (hts _ (gm tw_376)) d_P_energyOfSpring_I_93 ?_
  refine lv_aload_n hx hb d_P_energyOfSpring_I_96 rfl (lv_at hl 6 rfl) ?_
  refine va_get (D := (dC, dI)) (ci := 1) (v := .ref (ad 5)) (C := R_P) (T := F_P) (N := 3) hx hb hts (fun w h => gm (i_P w h)) hown hK G.1 1 rfl rfl 2 (by decide) (hts _ (gm tw_48)) (fun _ h9 => h9) rfl d_P_energyOfSpring_I_97 ?_
  refine lv_iload_n hx hb d_P_energyOfSpring_I_100 rfl (lv_at hl 7 rfl) ?_
  refine hg_cl (As := [.int x1]) (rest := [.long (4602678819172646912 : Int64)]) ⟨hx, hb, hml, hown, hts⟩ (c_S_stiffness_I l dC dI ad cJ cI S x1 hk_x1 _) (gw_callV (k := 1) hts tw_236 tw_237 tw_238 tw_3 tw_239 (by decide +kernel) rfl rfl ⟨Nat.le_of_ble_eq_true rfl, Nat.le_of_ble_eq_true rfl⟩) hK G hA (hx_T _ _) 2 5 rfl rfl rfl hl.1 rfl (Nat.le_of_ble_eq_true rfl) ⟨Nat.zero_le _, Nat.zero_le _⟩ d_P_energyOfSpring_I_101 (fun H locs G => ?_)
  refine pu_l (As := [.long (4602678819172646912 : Int64), .long (f_S_stiffness_I S x1)]) (rest := []) ⟨hx, hb, hml, hown, hts⟩ (c_I_product_JJ l _ (4602678819172646912 : Int64) (f_S_stiffness_I S x1)) pu_pre (gw_call (k := 2) hts tw_174 tw_175 tw_5 tw_176 (by decide +kernel) rfl rfl ⟨Nat.le_of_ble_eq_true rfl, Nat.le_of_ble_eq_true rfl⟩) rfl hl.1 rfl (Nat.le_of_ble_eq_true rfl) ⟨Nat.zero_le _, Nat.zero_le _⟩ d_P_energyOfSpring_I_104 ?_
  refine lv_topl (fun v7 e7 => ?_)
  refine lv_lstore (lv' := [(12, .long v7), (10, .long v6), (8, .long v5), (6, .long v4), (4, .long v3), (3, .int v2), (2, .int v1), (0, .ref (ad 1)), (1, .int x1)]) hx hb d_P_energyOfSpring_I_107 hl (by decide) rfl (fun ls hl => ?_)
  refine lv_lload hx hb d_P_energyOfSpring_I_109 (lv_at hl 0 rfl) ?_
  refine lv_lload hx hb d_P_energyOfSpring_I_111 (lv_at hl 1 rfl) ?_
  refine pu_l (As := [.long v7, .long v6]) (rest := []) ⟨hx, hb, hml, hown, hts⟩ (c_I_product_JJ l _ v7 v6) pu_pre (gw_call (k := 2) hts tw_174 tw_175 tw_5 tw_176 (by decide +kernel) rfl rfl ⟨Nat.le_of_ble_eq_true rfl, Nat.le_of_ble_eq_true rfl⟩) rfl hl.1 rfl (Nat.le_of_ble_eq_true rfl) ⟨Nat.zero_le _, Nat.zero_le _⟩ d_P_energyOfSpring_I_113 ?_
  refine lv_lload hx hb d_P_energyOfSpring_I_116 (lv_at hl 1 rfl) ?_
  refine pu_l (As := [.long (f_I_product_JJ v7 v6), .long v6]) (rest := []) ⟨hx, hb, hml, hown, hts⟩ (c_I_product_JJ l _ (f_I_product_JJ v7 v6) v6) pu_pre (gw_call (k := 2) hts tw_174 tw_175 tw_5 tw_176 (by decide +kernel) rfl rfl ⟨Nat.le_of_ble_eq_true rfl, Nat.le_of_ble_eq_true rfl⟩) rfl hl.1 rfl (Nat.le_of_ble_eq_true rfl) ⟨Nat.zero_le _, Nat.zero_le _⟩ d_P_energyOfSpring_I_118 ?_
  exact hg_lret hx hb hr hlocks hK hAe G (by have qe1 := e1.symm; have qe2 := e2.symm; have qe3 := e3.symm; have qe4 := e4.symm; have qe5 := e5.symm; have qe6 := e6.symm; have qe7 := e7.symm; subst qe1 qe2 qe3 qe4 qe5 qe6 qe7; exact ⟨rfl, rfl⟩) d_P_energyOfSpring_I_121
-- ===== MotionLab$Plane.wholeEnergy()J 
abbrev y_P_wholeEnergy : MethodName := ⟨"MotionLab$Plane", "wholeEnergy", "()J"⟩
abbrev b_P_wholeEnergy : ByteArray := prog_3_method_10_code
theorem d_P_wholeEnergy_0 : decode b_P_wholeEnergy 0 = .ok (.lconst 0, 1) := by decide +kernel
theorem d_P_wholeEnergy_1 : decode b_P_wholeEnergy 1 = .ok (.lstore_n 1, 1) := by decide +kernel
theorem d_P_wholeEnergy_2 : decode b_P_wholeEnergy 2 = .ok (.iconst 0, 1) := by decide +kernel
theorem d_P_wholeEnergy_3 : decode b_P_wholeEnergy 3 = .ok (.istore_n 3, 1) := by decide +kernel
theorem d_P_wholeEnergy_4 : decode b_P_wholeEnergy 4 = .ok (.iload_n 3, 1) := by decide +kernel
theorem d_P_wholeEnergy_5 : decode b_P_wholeEnergy 5 = .ok (.bipush 8, 2) := by decide +kernel
theorem d_P_wholeEnergy_7 : decode b_P_wholeEnergy 7 = .ok (.if_icmp .ge 27, 3) := by decide +kernel
theorem d_P_wholeEnergy_10 : decode b_P_wholeEnergy 10 = .ok (.lload_n 1, 1) := by decide +kernel
theorem d_P_wholeEnergy_11 : decode b_P_wholeEnergy 11 = .ok (.aload_n 0, 1) := by decide +kernel
theorem d_P_wholeEnergy_12 : decode b_P_wholeEnergy 12 = .ok (.iload_n 3, 1) := by decide +kernel
theorem d_P_wholeEnergy_13 : decode b_P_wholeEnergy 13 = .ok (.invokevirtual 59, 3) := by decide +kernel
theorem d_P_wholeEnergy_16 : decode b_P_wholeEnergy 16 = .ok (.invokestatic 63, 3) := by decide +kernel
theorem d_P_wholeEnergy_19 : decode b_P_wholeEnergy 19 = .ok (.aload_n 0, 1) := by decide +kernel
theorem d_P_wholeEnergy_20 : decode b_P_wholeEnergy 20 = .ok (.iload_n 3, 1) := by decide +kernel
theorem d_P_wholeEnergy_21 : decode b_P_wholeEnergy 21 = .ok (.invokevirtual 67, 3) := by decide +kernel
theorem d_P_wholeEnergy_24 : decode b_P_wholeEnergy 24 = .ok (.invokestatic 70, 3) := by decide +kernel
theorem d_P_wholeEnergy_27 : decode b_P_wholeEnergy 27 = .ok (.lstore_n 1, 1) := by decide +kernel
theorem d_P_wholeEnergy_28 : decode b_P_wholeEnergy 28 = .ok (.iinc 3 1, 3) := by decide +kernel
theorem d_P_wholeEnergy_31 : decode b_P_wholeEnergy 31 = .ok (.goto (-27), 3) := by decide +kernel
theorem d_P_wholeEnergy_34 : decode b_P_wholeEnergy 34 = .ok (.iconst 0, 1) := by decide +kernel
theorem d_P_wholeEnergy_35 : decode b_P_wholeEnergy 35 = .ok (.istore_n 3, 1) := by decide +kernel
theorem d_P_wholeEnergy_36 : decode b_P_wholeEnergy 36 = .ok (.iload_n 3, 1) := by decide +kernel
theorem d_P_wholeEnergy_37 : decode b_P_wholeEnergy 37 = .ok (.aload_n 0, 1) := by decide +kernel
theorem d_P_wholeEnergy_38 : decode b_P_wholeEnergy 38 = .ok (.getfield 19, 3) := by decide +kernel
theorem d_P_wholeEnergy_41 : decode b_P_wholeEnergy 41 = .ok (.getfield 42, 3) := by decide +kernel
theorem d_P_wholeEnergy_44 : decode b_P_wholeEnergy 44 = .ok (.if_icmp .ge 19, 3) := by decide +kernel
theorem d_P_wholeEnergy_47 : decode b_P_wholeEnergy 47 = .ok (.lload_n 1, 1) := by decide +kernel
theorem d_P_wholeEnergy_48 : decode b_P_wholeEnergy 48 = .ok (.aload_n 0, 1) := by decide +kernel
theorem d_P_wholeEnergy_49 : decode b_P_wholeEnergy 49 = .ok (.iload_n 3, 1) := by decide +kernel
theorem d_P_wholeEnergy_50 : decode b_P_wholeEnergy 50 = .ok (.invokevirtual 73, 3) := by decide +kernel
theorem d_P_wholeEnergy_53 : decode b_P_wholeEnergy 53 = .ok (.invokestatic 63, 3) := by decide +kernel
theorem d_P_wholeEnergy_56 : decode b_P_wholeEnergy 56 = .ok (.lstore_n 1, 1) := by decide +kernel
theorem d_P_wholeEnergy_57 : decode b_P_wholeEnergy 57 = .ok (.iinc 3 1, 3) := by decide +kernel
theorem d_P_wholeEnergy_60 : decode b_P_wholeEnergy 60 = .ok (.goto (-24), 3) := by decide +kernel
theorem d_P_wholeEnergy_63 : decode b_P_wholeEnergy 63 = .ok (.lload_n 1, 1) := by decide +kernel
theorem d_P_wholeEnergy_64 : decode b_P_wholeEnergy 64 = .ok (.lreturn, 1) := by decide +kernel
def f_P_wholeEnergy_36 : Nat → CS → Int64 → Int32 → Int64
  | 0, S, _, _ => 0
  | n + 1, S, x1, x3 =>
    if (sC S) ≤ x3 then
      x1
    else
      let v2 : Int64 := f_I_sum_JJ x1 (f_P_energyOfSpring_I S x3)
      let v3 : Int32 := x3 + 1
      f_P_wholeEnergy_36 n S v2 v3
set_option maxHeartbeats 4000000 in
set_option maxRecDepth 100000 in
theorem k_P_wholeEnergy_36 {p : Program} {l : Launch} {e : Env} {s : State} {m : MethodId} {args : Array Value} {below : List Frame} {meth : Method} {c : Code} {A : Nat → Prop} {dC : Nat → ClassId} {dI : Nat → Nat → Nat} {ad : Nat → Nat} {cJ cI : ClassId} {W0 : va_W} {sz : Nat} (C0 : pu_C p s m args meth c b_P_wholeEnergy 4 "MotionLab$Plane" (some .long) (gw y_P_wholeEnergy b_P_wholeEnergy 4 (some .long))) (hK : va_K (dC, dI) classes (tysJI cJ cI) s) (hAe : va_A W0 sz = A) (hA : ∀ q : Nat, s.heap.size ≤ q → A q) (n : Nat) : ∀ (S : CS) (x1 : Int64) (x3 : Int32) (hOK : cOK S) (hinv : ∃ j : Nat, x3 = nI j ∧ j ≤ (sC S).toNatClampNeg ∧ (sC S).toNatClampNeg - j < n) (H : Heap) (locs : List Loc) (G : hG (dC, dI) classes A s.heap (cW ad cJ cI S) H locs) (ls : Array Slot) (hl : lv_has ls 4 [(0, .ref (ad 1)), (1, .long x1), (3, .int x3)]) {w : Int64} (hw : w = f_P_wholeEnergy_36 n S x1 x3), W p l e (headSpec (gw y_P_wholeEnergy b_P_wholeEnergy 4 (some .long)) ({ frames := 6, cells := 0, slots := 0, locals := 166 } : Room)).room s m args below meth c H locs 0 0 (MQ below (hQl (dC, dI) classes (tysJI cJ cI) W0 sz w (cW ad cJ cI S)) args s 0 0 A) (F0 m 36 ls []) := by
  obtain ⟨hx, hb, hml, hown, hts, hr, hlocks⟩ := id C0
  induction n with
  | zero => intro S x1 x3 hOK hinv H locs G ls hl w hw; exact (fl_zero hinv).elim
  | succ n ih =>
    intro S x1 x3 hOK hinv H locs G ls hl w hw
    refine lv_iload_n hx hb d_P_wholeEnergy_36 rfl (lv_at hl 2 rfl) ?_
    refine lv_aload_n hx hb d_P_wholeEnergy_37 rfl (lv_at hl 0 rfl) ?_
    refine va_get (D := (dC, dI)) (ci := 1) (v := .ref (ad 5)) (C := R_P) (T := F_P) (N := 3) hx hb hts (fun w h => gm (i_P w h)) hown hK G.1 1 rfl rfl 2 (by decide) (hts _ (gm tw_48)) (fun _ h9 => h9) rfl d_P_wholeEnergy_38 ?_
    refine va_get (D := (dC, dI)) (ci := 2) (v := .int (sC S)) (C := R_S) (T := F_S) (N := 3) hx hb hts (fun w h => gm (i_S w h)) hown hK G.1 5 rfl rfl 2 (by decide) (hts _ (gm tw_33)) (fun _ h9 => h9) rfl d_P_wholeEnergy_41 ?_
    refine lv_icmp_ge (tgt := 63) hx hb d_P_wholeEnergy_44 (by decide) (fun c1 => ?_) (fun c1 => ?_)
    · refine lv_lload_n hx hb d_P_wholeEnergy_63 rfl (lv_at hl 1 rfl) ?_
      exact hg_lret hx hb hr hlocks hK hAe G (by exact ⟨Eq.symm (hw.trans (if_pos c1)), rfl⟩) d_P_wholeEnergy_64
    · refine lv_lload_n hx hb d_P_wholeEnergy_47 rfl (lv_at hl 1 rfl) ?_
      refine lv_aload_n hx hb d_P_wholeEnergy_48 rfl (lv_at hl 0 rfl) ?_
      refine lv_iload_n hx hb d_P_wholeEnergy_49 rfl (lv_at hl 2 rfl) ?_
      refine hg_cl (As := [.int x3]) (rest := [.long x1]) ⟨hx, hb, hml, hown, hts⟩ (c_P_energyOfSpring_I l dC dI ad cJ cI S x3 (cOK_at hOK hinv c1).1 (cOK_at hOK hinv c1).2.1 (cOK_at hOK hinv c1).2.2 _) (gw_callV (k := 1) hts tw_381 tw_383 tp_8 tw_2 tw_384 (by decide +kernel) rfl rfl ⟨Nat.le_of_ble_eq_true rfl, Nat.le_of_ble_eq_true rfl⟩) hK G hA (hx_T _ _) 1 1 rfl rfl rfl hl.1 rfl (Nat.le_of_ble_eq_true rfl) ⟨Nat.zero_le _, Nat.zero_le _⟩ d_P_wholeEnergy_50 (fun H locs G => ?_)
      refine pu_l (As := [.long x1, .long (f_P_energyOfSpring_I S x3)]) (rest := []) ⟨hx, hb, hml, hown, hts⟩ (c_I_sum_JJ l _ x1 (f_P_energyOfSpring_I S x3)) pu_pre (gw_call (k := 2) hts tw_249 tw_192 tw_5 tw_193 (by decide +kernel) rfl rfl ⟨Nat.le_of_ble_eq_true rfl, Nat.le_of_ble_eq_true rfl⟩) rfl hl.1 rfl (Nat.le_of_ble_eq_true rfl) ⟨Nat.zero_le _, Nat.zero_le _⟩ d_P_wholeEnergy_53 ?_
      refine lv_topl (fun v2 e2 => ?_)
      refine lv_lstore_n (lv' := [(1, .long v2), (0, .ref (ad 1)), (3, .int x3)]) hx hb d_P_wholeEnergy_56 rfl hl (by decide) rfl (fun ls hl => ?_)
      obtain ⟨v3, e3⟩ : ∃ y : Int32, y = x3 + 1 := ⟨_, rfl⟩
      refine lv_iinc (v := v3) (lv' := [(3, .int v3), (1, .long v2), (0, .ref (ad 1))]) hx hb d_P_wholeEnergy_57 hl (k := 2) rfl (by rw [e3]; rfl) (by decide) rfl (fun ls hl => ?_)
      refine lv_goto (tgt := 36) hx hb d_P_wholeEnergy_60 (by decide) ?_
      exact ih S v2 v3 hOK (by rw [e3]; exact fl_up hinv c1) _ _ G ls (lv_sub hl [2, 1, 0] rfl) (by have qe2 := e2.symm; have qe3 := e3.symm; subst qe2 qe3; exact (hw.trans (if_neg c1)))
def f_P_wholeEnergy (S : CS) : Int64 :=
  let v1 : Int64 := f_I_difference_JJ (f_I_sum_JJ (0 : Int64) (f_P_energyOfMotion_I S (0 : Int32))) (f_P_energyOfPlace_I S (0 : Int32))
  let v2 : Int64 := f_I_difference_JJ (f_I_sum_JJ v1 (f_P_energyOfMotion_I S (1 : Int32))) (f_P_energyOfPlace_I S (1 : Int32))
  let v3 : Int64 := f_I_difference_JJ (f_I_sum_JJ v2 (f_P_energyOfMotion_I S (2 : Int32))) (f_P_energyOfPlace_I S (2 : Int32))
  let v4 : Int64 := f_I_difference_JJ (f_I_sum_JJ v3 (f_P_energyOfMotion_I S (3 : Int32))) (f_P_energyOfPlace_I S (3 : Int32))
  let v5 : Int64 := f_I_difference_JJ (f_I_sum_JJ v4 (f_P_energyOfMotion_I S (4 : Int32))) (f_P_energyOfPlace_I S (4 : Int32))
  let v6 : Int64 := f_I_difference_JJ (f_I_sum_JJ v5 (f_P_energyOfMotion_I S (5 : Int32))) (f_P_energyOfPlace_I S (5 : Int32))
  let v7 : Int64 := f_I_difference_JJ (f_I_sum_JJ v6 (f_P_energyOfMotion_I S (6 : Int32))) (f_P_energyOfPlace_I S (6 : Int32))
  let v8 : Int64 := f_I_difference_JJ (f_I_sum_JJ v7 (f_P_energyOfMotion_I S (7 : Int32))) (f_P_energyOfPlace_I S (7 : Int32))
  f_P_wholeEnergy_36 ((sC S).toNatClampNeg + 1) S v8 (0 : Int32)
set_option maxHeartbeats 4000000 in
set_option maxRecDepth 100000 in
theorem c_P_wholeEnergy (l : Launch) (dC : Nat → ClassId) (dI : Nat → Nat → Nat) (ad : Nat → Nat) (cJ cI : ClassId) (S : CS)  (hOK : cOK S) (sz : Nat) : hMl l y_P_wholeEnergy (gw y_P_wholeEnergy b_P_wholeEnergy 4 (some .long)) { frames := 6, cells := 0, slots := 0, locals := 166 } [.ref (ad 1)] (dC, dI) classes (tysJI cJ cI) (fun _ => True) (cW ad cJ cI S) sz (f_P_wholeEnergy S) (cW ad cJ cI S) := by
  refine Met.ofW (cc := b_P_wholeEnergy) (maxL := 4) (ret := (some .long)) (by decide) rfl ?_
  intro p e s m args below meth c s₁ B hml hv
  obtain ⟨rfl, hsz, hP, hK, hD0, hRT⟩ := hv
  have hx := B.exec
  have hb := B.bytes
  have hr := B.returns
  have hts := atoms_spec (ws := (gw y_P_wholeEnergy b_P_wholeEnergy 4 (some .long))) B.pre
  have hown : s.vm.findClass "MotionLab$Plane" = some m.cls := findClass_of_methodNamed B.named
  have hlocks := B.notSynchronized
  have C0 : pu_C p s m _ meth c b_P_wholeEnergy 4 "MotionLab$Plane" (some .long) (gw y_P_wholeEnergy b_P_wholeEnergy 4 (some .long)) := ⟨hx, hb, hml, hown, hts, hr, hlocks⟩
  subst hsz
  have hD := hD0.self (sz := s.heap.size)
  generalize hAe : va_A (cW ad cJ cI S) s.heap.size = A at hD
  have hA : ∀ q : Nat, s.heap.size ≤ q → A q := fun q h => by rw [← hAe]; exact Or.inr h
  have G : hG (dC, dI) classes A s.heap (cW ad cJ cI S) s.heap [] := ⟨hP, hD, va_S.rf⟩
  have hl := lv_entry ([.ref (ad 1)]) (n := 4) (Nat.le_of_ble_eq_true rfl)
  rw [lg_entry_eq]
  generalize (lg_sl ([.ref (ad 1)]) ++ List.replicate (4 - (lg_sl ([.ref (ad 1)])).length) Slot.unset).toArray = ls at hl ⊢
  have hl : lv_has ls 4 [(0, .ref (ad 1))] := hl
  refine lv_lconst (v := (0 : Int64)) hx hb d_P_wholeEnergy_0 (by decide) ?_
  refine lv_lstore_n (lv' := [(1, .long (0 : Int64)), (0, .ref (ad 1))]) hx hb d_P_wholeEnergy_1 rfl hl (by decide) rfl (fun ls hl => ?_)
  refine lv_iconst (v := 0) hx hb d_P_wholeEnergy_2 (by decide) ?_
  refine lv_istore_n (lv' := [(3, .int (0 : Int32)), (1, .long (0 : Int64)), (0, .ref (ad 1))]) hx hb d_P_wholeEnergy_3 rfl hl (by decide) rfl (fun ls hl => ?_)
  refine lv_iload_n hx hb d_P_wholeEnergy_4 rfl (lv_at hl 0 rfl) ?_
  refine lv_bipush (v := (8 : Int32)) hx hb d_P_wholeEnergy_5 (by decide) ?_
  refine lv_icmp_ge (tgt := 34) hx hb d_P_wholeEnergy_7 (by decide) (fun c0 => absurd c0 (by decide)) (fun _ => ?_)
  refine lv_lload_n hx hb d_P_wholeEnergy_10 rfl (lv_at hl 1 rfl) ?_
  refine lv_aload_n hx hb d_P_wholeEnergy_11 rfl (lv_at hl 2 rfl) ?_
  refine lv_iload_n hx hb d_P_wholeEnergy_12 rfl (lv_at hl 0 rfl) ?_
  refine hg_cl (As := [.int (0 : Int32)]) (rest := [.long (0 : Int64)]) ⟨hx, hb, hml, hown, hts⟩ (c_P_energyOfMotion_I l dC dI ad cJ cI S (0 : Int32) (in_of (by decide) (by decide)) _) (gw_callV (k := 1) hts tw_372 tw_374 tp_6 tw_2 tw_375 (by decide +kernel) rfl rfl ⟨Nat.le_of_ble_eq_true rfl, Nat.le_of_ble_eq_true rfl⟩) hK G hA (hx_T _ _) 1 1 rfl rfl rfl hl.1 rfl (Nat.le_of_ble_eq_true rfl) ⟨Nat.zero_le _, Nat.zero_le _⟩ d_P_wholeEnergy_13 (fun H locs G => ?_)
  refine pu_l (As := [.long (0 : Int64), .long (f_P_energyOfMotion_I S (0 : Int32))]) (rest := []) ⟨hx, hb, hml, hown, hts⟩ (c_I_sum_JJ l _ (0 : Int64) (f_P_energyOfMotion_I S (0 : Int32))) pu_pre (gw_call (k := 2) hts tw_249 tw_192 tw_5 tw_193 (by decide +kernel) rfl rfl ⟨Nat.le_of_ble_eq_true rfl, Nat.le_of_ble_eq_true rfl⟩) rfl hl.1 rfl (Nat.le_of_ble_eq_true rfl) ⟨Nat.zero_le _, Nat.zero_le _⟩ d_P_wholeEnergy_16 ?_
  refine lv_aload_n hx hb d_P_wholeEnergy_19 rfl (lv_at hl 2 rfl) ?_
  refine lv_iload_n hx hb d_P_wholeEnergy_20 rfl (lv_at hl 0 rfl) ?_
  refine hg_cl (As := [.int (0 : Int32)]) (rest := [.long (f_I_sum_JJ (0 : Int64) (f_P_energyOfMotion_I S (0 : Int32)))]) ⟨hx, hb, hml, hown, hts⟩ (c_P_energyOfPlace_I l dC dI ad cJ cI S (0 : Int32) (in_of (by decide) (by decide)) _) (gw_callV (k := 1) hts tw_377 tw_379 tp_7 tw_2 tw_380 (by decide +kernel) rfl rfl ⟨Nat.le_of_ble_eq_true rfl, Nat.le_of_ble_eq_true rfl⟩) hK G hA (hx_T _ _) 1 1 rfl rfl rfl hl.1 rfl (Nat.le_of_ble_eq_true rfl) ⟨Nat.zero_le _, Nat.zero_le _⟩ d_P_wholeEnergy_21 (fun H locs G => ?_)
  refine pu_l (As := [.long (f_I_sum_JJ (0 : Int64) (f_P_energyOfMotion_I S (0 : Int32))), .long (f_P_energyOfPlace_I S (0 : Int32))]) (rest := []) ⟨hx, hb, hml, hown, hts⟩ (c_I_difference_JJ l _ (f_I_sum_JJ (0 : Int64) (f_P_energyOfMotion_I S (0 : Int32))) (f_P_energyOfPlace_I S (0 : Int32))) pu_pre (gw_call (k := 2) hts tw_188 tw_189 tw_5 tw_190 (by decide +kernel) rfl rfl ⟨Nat.le_of_ble_eq_true rfl, Nat.le_of_ble_eq_true rfl⟩) rfl hl.1 rfl (Nat.le_of_ble_eq_true rfl) ⟨Nat.zero_le _, Nat.zero_le _⟩ d_P_wholeEnergy_24 ?_
  refine lv_topl (fun v1 e1 => ?_)
  refine lv_lstore_n (lv' := [(1, .long v1), (3, .int (0 : Int32)), (0, .ref (ad 1))]) hx hb d_P_wholeEnergy_27 rfl hl (by decide) rfl (fun ls hl => ?_)
  refine lv_iinc (v := (1 : Int32)) (lv' := [(3, .int (1 : Int32)), (1, .long v1), (0, .ref (ad 1))]) hx hb d_P_wholeEnergy_28 hl (k := 1) rfl (by decide) (by decide) rfl (fun ls hl => ?_)
  refine lv_goto (tgt := 4) hx hb d_P_wholeEnergy_31 (by decide) ?_
  refine lv_iload_n hx hb d_P_wholeEnergy_4 rfl (lv_at hl 0 rfl) ?_
  refine lv_bipush (v := (8 : Int32)) hx hb d_P_wholeEnergy_5 (by decide) ?_
  refine lv_icmp_ge (tgt := 34) hx hb d_P_wholeEnergy_7 (by decide) (fun c0 => absurd c0 (by decide)) (fun _ => ?_)
  refine lv_lload_n hx hb d_P_wholeEnergy_10 rfl (lv_at hl 1 rfl) ?_
  refine lv_aload_n hx hb d_P_wholeEnergy_11 rfl (lv_at hl 2 rfl) ?_
  refine lv_iload_n hx hb d_P_wholeEnergy_12 rfl (lv_at hl 0 rfl) ?_
  refine hg_cl (As := [.int (1 : Int32)]) (rest := [.long v1]) ⟨hx, hb, hml, hown, hts⟩ (c_P_energyOfMotion_I l dC dI ad cJ cI S (1 : Int32) (in_of (by decide) (by decide)) _) (gw_callV (k := 1) hts tw_372 tw_374 tp_6 tw_2 tw_375 (by decide +kernel) rfl rfl ⟨Nat.le_of_ble_eq_true rfl, Nat.le_of_ble_eq_true rfl⟩) hK G hA (hx_T _ _) 1 1 rfl rfl rfl hl.1 rfl (Nat.le_of_ble_eq_true rfl) ⟨Nat.zero_le _, Nat.zero_le _⟩ d_P_wholeEnergy_13 (fun H locs G => ?_)
  refine pu_l (As := [.long v1, .long (f_P_energyOfMotion_I S (1 : Int32))]) (rest := []) ⟨hx, hb, hml, hown, hts⟩ (c_I_sum_JJ l _ v1 (f_P_energyOfMotion_I S (1 : Int32))) pu_pre (gw_call (k := 2) hts tw_249 tw_192 tw_5 tw_193 (by decide +kernel) rfl rfl ⟨Nat.le_of_ble_eq_true rfl, Nat.le_of_ble_eq_true rfl⟩) rfl hl.1 rfl (Nat.le_of_ble_eq_true rfl) ⟨Nat.zero_le _, Nat.zero_le _⟩ d_P_wholeEnergy_16 ?_
  refine lv_aload_n hx hb d_P_wholeEnergy_19 rfl (lv_at hl 2 rfl) ?_
  refine lv_iload_n hx hb d_P_wholeEnergy_20 rfl (lv_at hl 0 rfl) ?_
  refine hg_cl (As := [.int (1 : Int32)]) (rest := [.long (f_I_sum_JJ v1 (f_P_energyOfMotion_I S (1 : Int32)))]) ⟨hx, hb, hml, hown, hts⟩ (c_P_energyOfPlace_I l dC dI ad cJ cI S (1 : Int32) (in_of (by decide) (by decide)) _) (gw_callV (k := 1) hts tw_377 tw_379 tp_7 tw_2 tw_380 (by decide +kernel) rfl rfl ⟨Nat.le_of_ble_eq_true rfl, Nat.le_of_ble_eq_true rfl⟩) hK G hA (hx_T _ _) 1 1 rfl rfl rfl hl.1 rfl (Nat.le_of_ble_eq_true rfl) ⟨Nat.zero_le _, Nat.zero_le _⟩ d_P_wholeEnergy_21 (fun H locs G => ?_)
  refine pu_l (As := [.long (f_I_sum_JJ v1 (f_P_energyOfMotion_I S (1 : Int32))), .long (f_P_energyOfPlace_I S (1 : Int32))]) (rest := []) ⟨hx, hb, hml, hown, hts⟩ (c_I_difference_JJ l _ (f_I_sum_JJ v1 (f_P_energyOfMotion_I S (1 : Int32))) (f_P_energyOfPlace_I S (1 : Int32))) pu_pre (gw_call (k := 2) hts tw_188 tw_189 tw_5 tw_190 (by decide +kernel) rfl rfl ⟨Nat.le_of_ble_eq_true rfl, Nat.le_of_ble_eq_true rfl⟩) rfl hl.1 rfl (Nat.le_of_ble_eq_true rfl) ⟨Nat.zero_le _, Nat.zero_le _⟩ d_P_wholeEnergy_24 ?_
  refine lv_topl (fun v2 e2 => ?_)
  refine lv_lstore_n (lv' := [(1, .long v2), (3, .int (1 : Int32)), (0, .ref (ad 1))]) hx hb d_P_wholeEnergy_27 rfl hl (by decide) rfl (fun ls hl => ?_)
  refine lv_iinc (v := (2 : Int32)) (lv' := [(3, .int (2 : Int32)), (1, .long v2), (0, .ref (ad 1))]) hx hb d_P_wholeEnergy_28 hl (k := 1) rfl (by decide) (by decide) rfl (fun ls hl => ?_)
  refine lv_goto (tgt := 4) hx hb d_P_wholeEnergy_31 (by decide) ?_
  refine lv_iload_n hx hb d_P_wholeEnergy_4 rfl (lv_at hl 0 rfl) ?_
  refine lv_bipush (v := (8 : Int32)) hx hb d_P_wholeEnergy_5 (by decide) ?_
  refine lv_icmp_ge (tgt := 34) hx hb d_P_wholeEnergy_7 (by decide) (fun c0 => absurd c0 (by decide)) (fun _ => ?_)
  refine lv_lload_n hx hb d_P_wholeEnergy_10 rfl (lv_at hl 1 rfl) ?_
  refine lv_aload_n hx hb d_P_wholeEnergy_11 rfl (lv_at hl 2 rfl) ?_
  refine lv_iload_n hx hb d_P_wholeEnergy_12 rfl (lv_at hl 0 rfl) ?_
  refine hg_cl (As := [.int (2 : Int32)]) (rest := [.long v2]) ⟨hx, hb, hml, hown, hts⟩ (c_P_energyOfMotion_I l dC dI ad cJ cI S (2 : Int32) (in_of (by decide) (by decide)) _) (gw_callV (k := 1) hts tw_372 tw_374 tp_6 tw_2 tw_375 (by decide +kernel) rfl rfl ⟨Nat.le_of_ble_eq_true rfl, Nat.le_of_ble_eq_true rfl⟩) hK G hA (hx_T _ _) 1 1 rfl rfl rfl hl.1 rfl (Nat.le_of_ble_eq_true rfl) ⟨Nat.zero_le _, Nat.zero_le _⟩ d_P_wholeEnergy_13 (fun H locs G => ?_)
  refine pu_l (As := [.long v2, .long (f_P_energyOfMotion_I S (2 : Int32))]) (rest := []) ⟨hx, hb, hml, hown, hts⟩ (c_I_sum_JJ l _ v2 (f_P_energyOfMotion_I S (2 : Int32))) pu_pre (gw_call (k := 2) hts tw_249 tw_192 tw_5 tw_193 (by decide +kernel) rfl rfl ⟨Nat.le_of_ble_eq_true rfl, Nat.le_of_ble_eq_true rfl⟩) rfl hl.1 rfl (Nat.le_of_ble_eq_true rfl) ⟨Nat.zero_le _, Nat.zero_le _⟩ d_P_wholeEnergy_16 ?_
  refine lv_aload_n hx hb d_P_wholeEnergy_19 rfl (lv_at hl 2 rfl) ?_
  refine lv_iload_n hx hb d_P_wholeEnergy_20 rfl (lv_at hl 0 rfl) ?_
  refine hg_cl (As := [.int (2 : Int32)]) (rest := [.long (f_I_sum_JJ v2 (f_P_energyOfMotion_I S (2 : Int32)))]) ⟨hx, hb, hml, hown, hts⟩ (c_P_energyOfPlace_I l dC dI ad cJ cI S (2 : Int32) (in_of (by decide) (by decide)) _) (gw_callV (k := 1) hts tw_377 tw_379 tp_7 tw_2 tw_380 (by decide +kernel) rfl rfl ⟨Nat.le_of_ble_eq_true rfl, Nat.le_of_ble_eq_true rfl⟩) hK G hA (hx_T _ _) 1 1 rfl rfl rfl hl.1 rfl (Nat.le_of_ble_eq_true rfl) ⟨Nat.zero_le _, Nat.zero_le _⟩ d_P_wholeEnergy_21 (fun H locs G => ?_)
  refine pu_l (As := [.long (f_I_sum_JJ v2 (f_P_energyOfMotion_I S (2 : Int32))), .long (f_P_energyOfPlace_I S (2 : Int32))]) (rest := []) ⟨hx, hb, hml, hown, hts⟩ (c_I_difference_JJ l _ (f_I_sum_JJ v2 (f_P_energyOfMotion_I S (2 : Int32))) (f_P_energyOfPlace_I S (2 : Int32))) pu_pre (gw_call (k := 2) hts tw_188 tw_189 tw_5 tw_190 (by decide +kernel) rfl rfl ⟨Nat.le_of_ble_eq_true rfl, Nat.le_of_ble_eq_true rfl⟩) rfl hl.1 rfl (Nat.le_of_ble_eq_true rfl) ⟨Nat.zero_le _, Nat.zero_le _⟩ d_P_wholeEnergy_24 ?_
  refine lv_topl (fun v3 e3 => ?_)
  refine lv_lstore_n (lv' := [(1, .long v3), (3, .int (2 : Int32)), (0, .ref (ad 1))]) hx hb d_P_wholeEnergy_27 rfl hl (by decide) rfl (fun ls hl => ?_)
  refine lv_iinc (v := (3 : Int32)) (lv' := [(3, .int (3 : Int32)), (1, .long v3), (0, .ref (ad 1))]) hx hb d_P_wholeEnergy_28 hl (k := 1) rfl (by decide) (by decide) rfl (fun ls hl => ?_)
  refine lv_goto (tgt := 4) hx hb d_P_wholeEnergy_31 (by decide) ?_
  refine lv_iload_n hx hb d_P_wholeEnergy_4 rfl (lv_at hl 0 rfl) ?_
  refine lv_bipush (v := (8 : Int32)) hx hb d_P_wholeEnergy_5 (by decide) ?_
  refine lv_icmp_ge (tgt := 34) hx hb d_P_wholeEnergy_7 (by decide) (fun c0 => absurd c0 (by decide)) (fun _ => ?_)
  refine lv_lload_n hx hb d_P_wholeEnergy_10 rfl (lv_at hl 1 rfl) ?_
  refine lv_aload_n hx hb d_P_wholeEnergy_11 rfl (lv_at hl 2 rfl) ?_
  refine lv_iload_n hx hb d_P_wholeEnergy_12 rfl (lv_at hl 0 rfl) ?_
  refine hg_cl (As := [.int (3 : Int32)]) (rest := [.long v3]) ⟨hx, hb, hml, hown, hts⟩ (c_P_energyOfMotion_I l dC dI ad cJ cI S (3 : Int32) (in_of (by decide) (by decide)) _) (gw_callV (k := 1) hts tw_372 tw_374 tp_6 tw_2 tw_375 (by decide +kernel) rfl rfl ⟨Nat.le_of_ble_eq_true rfl, Nat.le_of_ble_eq_true rfl⟩) hK G hA (hx_T _ _) 1 1 rfl rfl rfl hl.1 rfl (Nat.le_of_ble_eq_true rfl) ⟨Nat.zero_le _, Nat.zero_le _⟩ d_P_wholeEnergy_13 (fun H locs G => ?_)
  refine pu_l (As := [.long v3, .long (f_P_energyOfMotion_I S (3 : Int32))]) (rest := []) ⟨hx, hb, hml, hown, hts⟩ (c_I_sum_JJ l _ v3 (f_P_energyOfMotion_I S (3 : Int32))) pu_pre (gw_call (k := 2) hts tw_249 tw_192 tw_5 tw_193 (by decide +kernel) rfl rfl ⟨Nat.le_of_ble_eq_true rfl, Nat.le_of_ble_eq_true rfl⟩) rfl hl.1 rfl (Nat.le_of_ble_eq_true rfl) ⟨Nat.zero_le _, Nat.zero_le _⟩ d_P_wholeEnergy_16 ?_
  refine lv_aload_n hx hb d_P_wholeEnergy_19 rfl (lv_at hl 2 rfl) ?_
  refine lv_iload_n hx hb d_P_wholeEnergy_20 rfl (lv_at hl 0 rfl) ?_
  refine hg_cl (As := [.int (3 : Int32)]) (rest := [.long (f_I_sum_JJ v3 (f_P_energyOfMotion_I S (3 : Int32)))]) ⟨hx, hb, hml, hown, hts⟩ (c_P_energyOfPlace_I l dC dI ad cJ cI S (3 : Int32) (in_of (by decide) (by decide)) _) (gw_callV (k := 1) hts tw_377 tw_379 tp_7 tw_2 tw_380 (by decide +kernel) rfl rfl ⟨Nat.le_of_ble_eq_true rfl, Nat.le_of_ble_eq_true rfl⟩) hK G hA (hx_T _ _) 1 1 rfl rfl rfl hl.1 rfl (Nat.le_of_ble_eq_true rfl) ⟨Nat.zero_le _, Nat.zero_le _⟩ d_P_wholeEnergy_21 (fun H locs G => ?_)
  refine pu_l (As := [.long (f_I_sum_JJ v3 (f_P_energyOfMotion_I S (3 : Int32))), .long (f_P_energyOfPlace_I S (3 : Int32))]) (rest := []) ⟨hx, hb, hml, hown, hts⟩ (c_I_difference_JJ l _ (f_I_sum_JJ v3 (f_P_energyOfMotion_I S (3 : Int32))) (f_P_energyOfPlace_I S (3 : Int32))) pu_pre (gw_call (k := 2) hts tw_188 tw_189 tw_5 tw_190 (by decide +kernel) rfl rfl ⟨Nat.le_of_ble_eq_true rfl, Nat.le_of_ble_eq_true rfl⟩) rfl hl.1 rfl (Nat.le_of_ble_eq_true rfl) ⟨Nat.zero_le _, Nat.zero_le _⟩ d_P_wholeEnergy_24 ?_
  refine lv_topl (fun v4 e4 => ?_)
  refine lv_lstore_n (lv' := [(1, .long v4), (3, .int (3 : Int32)), (0, .ref (ad 1))]) hx hb d_P_wholeEnergy_27 rfl hl (by decide) rfl (fun ls hl => ?_)
  refine lv_iinc (v := (4 : Int32)) (lv' := [(3, .int (4 : Int32)), (1, .long v4), (0, .ref (ad 1))]) hx hb d_P_wholeEnergy_28 hl (k := 1) rfl (by decide) (by decide) rfl (fun ls hl => ?_)
  refine lv_goto (tgt := 4) hx hb d_P_wholeEnergy_31 (by decide) ?_
  refine lv_iload_n hx hb d_P_wholeEnergy_4 rfl (lv_at hl 0 rfl) ?_
  refine lv_bipush (v := (8 : Int32)) hx hb d_P_wholeEnergy_5 (by decide) ?_
  refine lv_icmp_ge (tgt := 34) hx hb d_P_wholeEnergy_7 (by decide) (fun c0 => absurd c0 (by decide)) (fun _ => ?_)
  refine lv_lload_n hx hb d_P_wholeEnergy_10 rfl (lv_at hl 1 rfl) ?_
  refine lv_aload_n hx hb d_P_wholeEnergy_11 rfl (lv_at hl 2 rfl) ?_
  refine lv_iload_n hx hb d_P_wholeEnergy_12 rfl (lv_at hl 0 rfl) ?_
  refine hg_cl (As := [.int (4 : Int32)]) (rest := [.long v4]) ⟨hx, hb, hml, hown, hts⟩ (c_P_energyOfMotion_I l dC dI ad cJ cI S (4 : Int32) (in_of (by decide) (by decide)) _) (gw_callV (k := 1) hts tw_372 tw_374 tp_6 tw_2 tw_375 (by decide +kernel) rfl rfl ⟨Nat.le_of_ble_eq_true rfl, Nat.le_of_ble_eq_true rfl⟩) hK G hA (hx_T _ _) 1 1 rfl rfl rfl hl.1 rfl (Nat.le_of_ble_eq_true rfl) ⟨Nat.zero_le _, Nat.zero_le _⟩ d_P_wholeEnergy_13 (fun H locs G => ?_)
  refine pu_l (As := [.long v4, .long (f_P_energyOfMotion_I S (4 : Int32))]) (rest := []) ⟨hx, hb, hml, hown, hts⟩ (c_I_sum_JJ l _ v4 (f_P_energyOfMotion_I S (4 : Int32))) pu_pre (gw_call (k := 2) hts tw_249 tw_192 tw_5 tw_193 (by decide +kernel) rfl rfl ⟨Nat.le_of_ble_eq_true rfl, Nat.le_of_ble_eq_true rfl⟩) rfl hl.1 rfl (Nat.le_of_ble_eq_true rfl) ⟨Nat.zero_le _, Nat.zero_le _⟩ d_P_wholeEnergy_16 ?_
  refine lv_aload_n hx hb d_P_wholeEnergy_19 rfl (lv_at hl 2 rfl) ?_
  refine lv_iload_n hx hb d_P_wholeEnergy_20 rfl (lv_at hl 0 rfl) ?_
  refine hg_cl (As := [.int (4 : Int32)]) (rest := [.long (f_I_sum_JJ v4 (f_P_energyOfMotion_I S (4 : Int32)))]) ⟨hx, hb, hml, hown, hts⟩ (c_P_energyOfPlace_I l dC dI ad cJ cI S (4 : Int32) (in_of (by decide) (by decide)) _) (gw_callV (k := 1) hts tw_377 tw_379 tp_7 tw_2 tw_380 (by decide +kernel) rfl rfl ⟨Nat.le_of_ble_eq_true rfl, Nat.le_of_ble_eq_true rfl⟩) hK G hA (hx_T _ _) 1 1 rfl rfl rfl hl.1 rfl (Nat.le_of_ble_eq_true rfl) ⟨Nat.zero_le _, Nat.zero_le _⟩ d_P_wholeEnergy_21 (fun H locs G => ?_)
  refine pu_l (As := [.long (f_I_sum_JJ v4 (f_P_energyOfMotion_I S (4 : Int32))), .long (f_P_energyOfPlace_I S (4 : Int32))]) (rest := []) ⟨hx, hb, hml, hown, hts⟩ (c_I_difference_JJ l _ (f_I_sum_JJ v4 (f_P_energyOfMotion_I S (4 : Int32))) (f_P_energyOfPlace_I S (4 : Int32))) pu_pre (gw_call (k := 2) hts tw_188 tw_189 tw_5 tw_190 (by decide +kernel) rfl rfl ⟨Nat.le_of_ble_eq_true rfl, Nat.le_of_ble_eq_true rfl⟩) rfl hl.1 rfl (Nat.le_of_ble_eq_true rfl) ⟨Nat.zero_le _, Nat.zero_le _⟩ d_P_wholeEnergy_24 ?_
  refine lv_topl (fun v5 e5 => ?_)
  refine lv_lstore_n (lv' := [(1, .long v5), (3, .int (4 : Int32)), (0, .ref (ad 1))]) hx hb d_P_wholeEnergy_27 rfl hl (by decide) rfl (fun ls hl => ?_)
  refine lv_iinc (v := (5 : Int32)) (lv' := [(3, .int (5 : Int32)), (1, .long v5), (0, .ref (ad 1))]) hx hb d_P_wholeEnergy_28 hl (k := 1) rfl (by decide) (by decide) rfl (fun ls hl => ?_)
  refine lv_goto (tgt := 4) hx hb d_P_wholeEnergy_31 (by decide) ?_
  refine lv_iload_n hx hb d_P_wholeEnergy_4 rfl (lv_at hl 0 rfl) ?_
  refine lv_bipush (v := (8 : Int32)) hx hb d_P_wholeEnergy_5 (by decide) ?_
  refine lv_icmp_ge (tgt := 34) hx hb d_P_wholeEnergy_7 (by decide) (fun c0 => absurd c0 (by decide)) (fun _ => ?_)
  refine lv_lload_n hx hb d_P_wholeEnergy_10 rfl (lv_at hl 1 rfl) ?_
  refine lv_aload_n hx hb d_P_wholeEnergy_11 rfl (lv_at hl 2 rfl) ?_
  refine lv_iload_n hx hb d_P_wholeEnergy_12 rfl (lv_at hl 0 rfl) ?_
  refine hg_cl (As := [.int (5 : Int32)]) (rest := [.long v5]) ⟨hx, hb, hml, hown, hts⟩ (c_P_energyOfMotion_I l dC dI ad cJ cI S (5 : Int32) (in_of (by decide) (by decide)) _) (gw_callV (k := 1) hts tw_372 tw_374 tp_6 tw_2 tw_375 (by decide +kernel) rfl rfl ⟨Nat.le_of_ble_eq_true rfl, Nat.le_of_ble_eq_true rfl⟩) hK G hA (hx_T _ _) 1 1 rfl rfl rfl hl.1 rfl (Nat.le_of_ble_eq_true rfl) ⟨Nat.zero_le _, Nat.zero_le _⟩ d_P_wholeEnergy_13 (fun H locs G => ?_)
  refine pu_l (As := [.long v5, .long (f_P_energyOfMotion_I S (5 : Int32))]) (rest := []) ⟨hx, hb, hml, hown, hts⟩ (c_I_sum_JJ l _ v5 (f_P_energyOfMotion_I S (5 : Int32))) pu_pre (gw_call (k := 2) hts tw_249 tw_192 tw_5 tw_193 (by decide +kernel) rfl rfl ⟨Nat.le_of_ble_eq_true rfl, Nat.le_of_ble_eq_true rfl⟩) rfl hl.1 rfl (Nat.le_of_ble_eq_true rfl) ⟨Nat.zero_le _, Nat.zero_le _⟩ d_P_wholeEnergy_16 ?_
  refine lv_aload_n hx hb d_P_wholeEnergy_19 rfl (lv_at hl 2 rfl) ?_
  refine lv_iload_n hx hb d_P_wholeEnergy_20 rfl (lv_at hl 0 rfl) ?_
  refine hg_cl (As := [.int (5 : Int32)]) (rest := [.long (f_I_sum_JJ v5 (f_P_energyOfMotion_I S (5 : Int32)))]) ⟨hx, hb, hml, hown, hts⟩ (c_P_energyOfPlace_I l dC dI ad cJ cI S (5 : Int32) (in_of (by decide) (by decide)) _) (gw_callV (k := 1) hts tw_377 tw_379 tp_7 tw_2 tw_380 (by decide +kernel) rfl rfl ⟨Nat.le_of_ble_eq_true rfl, Nat.le_of_ble_eq_true rfl⟩) hK G hA (hx_T _ _) 1 1 rfl rfl rfl hl.1 rfl (Nat.le_of_ble_eq_true rfl) ⟨Nat.zero_le _, Nat.zero_le _⟩ d_P_wholeEnergy_21 (fun H locs G => ?_)
  refine pu_l (As := [.long (f_I_sum_JJ v5 (f_P_energyOfMotion_I S (5 : Int32))), .long (f_P_energyOfPlace_I S (5 : Int32))]) (rest := []) ⟨hx, hb, hml, hown, hts⟩ (c_I_difference_JJ l _ (f_I_sum_JJ v5 (f_P_energyOfMotion_I S (5 : Int32))) (f_P_energyOfPlace_I S (5 : Int32))) pu_pre (gw_call (k := 2) hts tw_188 tw_189 tw_5 tw_190 (by decide +kernel) rfl rfl ⟨Nat.le_of_ble_eq_true rfl, Nat.le_of_ble_eq_true rfl⟩) rfl hl.1 rfl (Nat.le_of_ble_eq_true rfl) ⟨Nat.zero_le _, Nat.zero_le _⟩ d_P_wholeEnergy_24 ?_
  refine lv_topl (fun v6 e6 => ?_)
  refine lv_lstore_n (lv' := [(1, .long v6), (3, .int (5 : Int32)), (0, .ref (ad 1))]) hx hb d_P_wholeEnergy_27 rfl hl (by decide) rfl (fun ls hl => ?_)
  refine lv_iinc (v := (6 : Int32)) (lv' := [(3, .int (6 : Int32)), (1, .long v6), (0, .ref (ad 1))]) hx hb d_P_wholeEnergy_28 hl (k := 1) rfl (by decide) (by decide) rfl (fun ls hl => ?_)
  refine lv_goto (tgt := 4) hx hb d_P_wholeEnergy_31 (by decide) ?_
  refine lv_iload_n hx hb d_P_wholeEnergy_4 rfl (lv_at hl 0 rfl) ?_
  refine lv_bipush (v := (8 : Int32)) hx hb d_P_wholeEnergy_5 (by decide) ?_
  refine lv_icmp_ge (tgt := 34) hx hb d_P_wholeEnergy_7 (by decide) (fun c0 => absurd c0 (by decide)) (fun _ => ?_)
  refine lv_lload_n hx hb d_P_wholeEnergy_10 rfl (lv_at hl 1 rfl) ?_
  refine lv_aload_n hx hb d_P_wholeEnergy_11 rfl (lv_at hl 2 rfl) ?_
  refine lv_iload_n hx hb d_P_wholeEnergy_12 rfl (lv_at hl 0 rfl) ?_
  refine hg_cl (As := [.int (6 : Int32)]) (rest := [.long v6]) ⟨hx, hb, hml, hown, hts⟩ (c_P_energyOfMotion_I l dC dI ad cJ cI S (6 : Int32) (in_of (by decide) (by decide)) _) (gw_callV (k := 1) hts tw_372 tw_374 tp_6 tw_2 tw_375 (by decide +kernel) rfl rfl ⟨Nat.le_of_ble_eq_true rfl, Nat.le_of_ble_eq_true rfl⟩) hK G hA (hx_T _ _) 1 1 rfl rfl rfl hl.1 rfl (Nat.le_of_ble_eq_true rfl) ⟨Nat.zero_le _, Nat.zero_le _⟩ d_P_wholeEnergy_13 (fun H locs G => ?_)
  refine pu_l (As := [.long v6, .long (f_P_energyOfMotion_I S (6 : Int32))]) (rest := []) ⟨hx, hb, hml, hown, hts⟩ (c_I_sum_JJ l _ v6 (f_P_energyOfMotion_I S (6 : Int32))) pu_pre (gw_call (k := 2) hts tw_249 tw_192 tw_5 tw_193 (by decide +kernel) rfl rfl ⟨Nat.le_of_ble_eq_true rfl, Nat.le_of_ble_eq_true rfl⟩) rfl hl.1 rfl (Nat.le_of_ble_eq_true rfl) ⟨Nat.zero_le _, Nat.zero_le _⟩ d_P_wholeEnergy_16 ?_
  refine lv_aload_n hx hb d_P_wholeEnergy_19 rfl (lv_at hl 2 rfl) ?_
  refine lv_iload_n hx hb d_P_wholeEnergy_20 rfl (lv_at hl 0 rfl) ?_
  refine hg_cl (As := [.int (6 : Int32)]) (rest := [.long (f_I_sum_JJ v6 (f_P_energyOfMotion_I S (6 : Int32)))]) ⟨hx, hb, hml, hown, hts⟩ (c_P_energyOfPlace_I l dC dI ad cJ cI S (6 : Int32) (in_of (by decide) (by decide)) _) (gw_callV (k := 1) hts tw_377 tw_379 tp_7 tw_2 tw_380 (by decide +kernel) rfl rfl ⟨Nat.le_of_ble_eq_true rfl, Nat.le_of_ble_eq_true rfl⟩) hK G hA (hx_T _ _) 1 1 rfl rfl rfl hl.1 rfl (Nat.le_of_ble_eq_true rfl) ⟨Nat.zero_le _, Nat.zero_le _⟩ d_P_wholeEnergy_21 (fun H locs G => ?_)
  refine pu_l (As := [.long (f_I_sum_JJ v6 (f_P_energyOfMotion_I S (6 : Int32))), .long (f_P_energyOfPlace_I S (6 : Int32))]) (rest := []) ⟨hx, hb, hml, hown, hts⟩ (c_I_difference_JJ l _ (f_I_sum_JJ v6 (f_P_energyOfMotion_I S (6 : Int32))) (f_P_energyOfPlace_I S (6 : Int32))) pu_pre (gw_call (k := 2) hts tw_188 tw_189 tw_5 tw_190 (by decide +kernel) rfl rfl ⟨Nat.le_of_ble_eq_true rfl, Nat.le_of_ble_eq_true rfl⟩) rfl hl.1 rfl (Nat.le_of_ble_eq_true rfl) ⟨Nat.zero_le _, Nat.zero_le _⟩ d_P_wholeEnergy_24 ?_
  refine lv_topl (fun v7 e7 => ?_)
  refine lv_lstore_n (lv' := [(1, .long v7), (3, .int (6 : Int32)), (0, .ref (ad 1))]) hx hb d_P_wholeEnergy_27 rfl hl (by decide) rfl (fun ls hl => ?_)
  refine lv_iinc (v := (7 : Int32)) (lv' := [(3, .int (7 : Int32)), (1, .long v7), (0, .ref (ad 1))]) hx hb d_P_wholeEnergy_28 hl (k := 1) rfl (by decide) (by decide) rfl (fun ls hl => ?_)
  refine lv_goto (tgt := 4) hx hb d_P_wholeEnergy_31 (by decide) ?_
  refine lv_iload_n hx hb d_P_wholeEnergy_4 rfl (lv_at hl 0 rfl) ?_
  refine lv_bipush (v := (8 : Int32)) hx hb d_P_wholeEnergy_5 (by decide) ?_
  refine lv_icmp_ge (tgt := 34) hx hb d_P_wholeEnergy_7 (by decide) (fun c0 => absurd c0 (by decide)) (fun _ => ?_)
  refine lv_lload_n hx hb d_P_wholeEnergy_10 rfl (lv_at hl 1 rfl) ?_
  refine lv_aload_n hx hb d_P_wholeEnergy_11 rfl (lv_at hl 2 rfl) ?_
  refine lv_iload_n hx hb d_P_wholeEnergy_12 rfl (lv_at hl 0 rfl) ?_
  refine hg_cl (As := [.int (7 : Int32)]) (rest := [.long v7]) ⟨hx, hb, hml, hown, hts⟩ (c_P_energyOfMotion_I l dC dI ad cJ cI S (7 : Int32) (in_of (by decide) (by decide)) _) (gw_callV (k := 1) hts tw_372 tw_374 tp_6 tw_2 tw_375 (by decide +kernel) rfl rfl ⟨Nat.le_of_ble_eq_true rfl, Nat.le_of_ble_eq_true rfl⟩) hK G hA (hx_T _ _) 1 1 rfl rfl rfl hl.1 rfl (Nat.le_of_ble_eq_true rfl) ⟨Nat.zero_le _, Nat.zero_le _⟩ d_P_wholeEnergy_13 (fun H locs G => ?_)
  refine pu_l (As := [.long v7, .long (f_P_energyOfMotion_I S (7 : Int32))]) (rest := []) ⟨hx, hb, hml, hown, hts⟩ (c_I_sum_JJ l _ v7 (f_P_energyOfMotion_I S (7 : Int32))) pu_pre (gw_call (k := 2) hts tw_249 tw_192 tw_5 tw_193 (by decide +kernel) rfl rfl ⟨Nat.le_of_ble_eq_true rfl, Nat.le_of_ble_eq_true rfl⟩) rfl hl.1 rfl (Nat.le_of_ble_eq_true rfl) ⟨Nat.zero_le _, Nat.zero_le _⟩ d_P_wholeEnergy_16 ?_
  refine lv_aload_n hx hb d_P_wholeEnergy_19 rfl (lv_at hl 2 rfl) ?_
  refine lv_iload_n hx hb d_P_wholeEnergy_20 rfl (lv_at hl 0 rfl) ?_
  refine hg_cl (As := [.int (7 : Int32)]) (rest := [.long (f_I_sum_JJ v7 (f_P_energyOfMotion_I S (7 : Int32)))]) ⟨hx, hb, hml, hown, hts⟩ (c_P_energyOfPlace_I l dC dI ad cJ cI S (7 : Int32) (in_of (by decide) (by decide)) _) (gw_callV (k := 1) hts tw_377 tw_379 tp_7 tw_2 tw_380 (by decide +kernel) rfl rfl ⟨Nat.le_of_ble_eq_true rfl, Nat.le_of_ble_eq_true rfl⟩) hK G hA (hx_T _ _) 1 1 rfl rfl rfl hl.1 rfl (Nat.le_of_ble_eq_true rfl) ⟨Nat.zero_le _, Nat.zero_le _⟩ d_P_wholeEnergy_21 (fun H locs G => ?_)
  refine pu_l (As := [.long (f_I_sum_JJ v7 (f_P_energyOfMotion_I S (7 : Int32))), .long (f_P_energyOfPlace_I S (7 : Int32))]) (rest := []) ⟨hx, hb, hml, hown, hts⟩ (c_I_difference_JJ l _ (f_I_sum_JJ v7 (f_P_energyOfMotion_I S (7 : Int32))) (f_P_energyOfPlace_I S (7 : Int32))) pu_pre (gw_call (k := 2) hts tw_188 tw_189 tw_5 tw_190 (by decide +kernel) rfl rfl ⟨Nat.le_of_ble_eq_true rfl, Nat.le_of_ble_eq_true rfl⟩) rfl hl.1 rfl (Nat.le_of_ble_eq_true rfl) ⟨Nat.zero_le _, Nat.zero_le _⟩ d_P_wholeEnergy_24 ?_
  refine lv_topl (fun v8 e8 => ?_)
  refine lv_lstore_n (lv' := [(1, .long v8), (3, .int (7 : Int32)), (0, .ref (ad 1))]) hx hb d_P_wholeEnergy_27 rfl hl (by decide) rfl (fun ls hl => ?_)
  refine lv_iinc (v := (8 : Int32)) (lv' := [(3, .int (8 : Int32)), (1, .long v8), (0, .ref (ad 1))]) hx hb d_P_wholeEnergy_28 hl (k := 1) rfl (by decide) (by decide) rfl (fun ls hl => ?_)
  refine lv_goto (tgt := 4) hx hb d_P_wholeEnergy_31 (by decide) ?_
  refine lv_iload_n hx hb d_P_wholeEnergy_4 rfl (lv_at hl 0 rfl) ?_
  refine lv_bipush (v := (8 : Int32)) hx hb d_P_wholeEnergy_5 (by decide) ?_
  refine lv_icmp_ge (tgt := 34) hx hb d_P_wholeEnergy_7 (by decide) (fun _ => ?_) (fun c0 => absurd c0 (by decide))
  refine lv_iconst (v := 0) hx hb d_P_wholeEnergy_34 (by decide) ?_
  refine lv_istore_n (lv' := [(3, .int (0 : Int32)), (1, .long v8), (0, .ref (ad 1))]) hx hb d_P_wholeEnergy_35 rfl hl (by decide) rfl (fun ls hl => ?_)
  exact k_P_wholeEnergy_36 C0 hK hAe hA ((sC S).toNatClampNeg + 1) S v8 (0 : Int32) hOK fl_first _ _ G ls (lv_sub hl [2, 1, 0] rfl) (by have qe1 := e1.symm; have qe2 := e2.symm; have qe3 := e3.symm; have qe4 := e4.symm; have qe5 := e5.symm; have qe6 := e6.symm; have qe7 := e7.symm; have qe8 := e8.symm; subst qe1 qe2 qe3 qe4 qe5 qe6 qe7 qe8; exact rfl)
-- ===== MotionLab.energy()J 
abbrev y_L_energy : MethodName := ⟨"MotionLab", "energy", "()J"⟩
abbrev b_L_energy : ByteArray := prog_1_method_14_code
theorem d_L_energy_0 : decode b_L_energy 0 = .ok (.aload_n 0, 1) := by decide +kernel
theorem d_L_energy_1 : decode b_L_energy 1 = .ok (.getfield 10, 3) := by decide +kernel
theorem d_L_energy_4 : decode b_L_energy 4 = .ok (.invokevirtual 110, 3) := by decide +kernel
theorem d_L_energy_7 : decode b_L_energy 7 = .ok (.lreturn, 1) := by decide +kernel
def f_L_energy (S : CS) : Int64 :=
  f_P_wholeEnergy S
set_option maxHeartbeats 4000000 in
set_option maxRecDepth 100000 in
theorem c_L_energy (l : Launch) (dC : Nat → ClassId) (dI : Nat → Nat → Nat) (ad : Nat → Nat) (cJ cI : ClassId) (S : CS)  (hOK : cOK S) (sz : Nat) : hMl l y_L_energy (gw y_L_energy b_L_energy 1 (some .long)) { frames := 7, cells := 0, slots := 0, locals := 189 } [.ref (ad 0)] (dC, dI) classes (tysJI cJ cI) (fun _ => True) (cW ad cJ cI S) sz (f_L_energy S) (cW ad cJ cI S) := by
  refine Met.ofW (cc := b_L_energy) (maxL := 1) (ret := (some .long)) (by decide) rfl ?_
  intro p e s m args below meth c s₁ B hml hv
  obtain ⟨rfl, hsz, hP, hK, hD0, hRT⟩ := hv
  have hx := B.exec
  have hb := B.bytes
  have hr := B.returns
  have hts := atoms_spec (ws := (gw y_L_energy b_L_energy 1 (some .long))) B.pre
  have hown : s.vm.findClass "MotionLab" = some m.cls := findClass_of_methodNamed B.named
  have hlocks := B.notSynchronized
  subst hsz
  have hD := hD0.self (sz := s.heap.size)
  generalize hAe : va_A (cW ad cJ cI S) s.heap.size = A at hD
  have hA : ∀ q : Nat, s.heap.size ≤ q → A q := fun q h => by rw [← hAe]; exact Or.inr h
  have G : hG (dC, dI) classes A s.heap (cW ad cJ cI S) s.heap [] := ⟨hP, hD, va_S.rf⟩
  have hl := lv_entry ([.ref (ad 0)]) (n := 1) (Nat.le_of_ble_eq_true rfl)
  rw [lg_entry_eq]
  generalize (lg_sl ([.ref (ad 0)]) ++ List.replicate (1 - (lg_sl ([.ref (ad 0)])).length) Slot.unset).toArray = ls at hl ⊢
  have hl : lv_has ls 1 [(0, .ref (ad 0))] := hl
  refine lv_aload_n hx hb d_L_energy_0 rfl (lv_at hl 0 rfl) ?_
  refine va_get (D := (dC, dI)) (ci := 0) (v := .ref (ad 1)) (C := R_L) (T := F_L) (N := 2) hx hb hts (fun w h => gm (i_L w h)) hown hK G.1 0 rfl rfl 0 (by decide) (hts _ (gm tw_57)) (fun _ h9 => h9) rfl d_L_energy_1 ?_
  refine hg_cl (As := []) (rest := []) ⟨hx, hb, hml, hown, hts⟩ (c_P_wholeEnergy l dC dI ad cJ cI S hOK _) (gw_callV (k := 0) hts tw_368 tw_369 tw_370 tw_2 tw_371 (by decide +kernel) rfl rfl ⟨Nat.le_of_ble_eq_true rfl, Nat.le_of_ble_eq_true rfl⟩) hK G hA (hx_T _ _) 1 1 rfl rfl rfl hl.1 rfl (Nat.le_of_ble_eq_true rfl) ⟨Nat.zero_le _, Nat.zero_le _⟩ d_L_energy_4 (fun H locs G => ?_)
  exact hg_lret hx hb hr hlocks hK hAe G (by exact ⟨rfl, rfl⟩) d_L_energy_7
