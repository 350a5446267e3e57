-- ===== MotionLab$Plane.meanOrSquares(IZ)J 
abbrev y_P_meanOrSquares_IZ : MethodName := ⟨"MotionLab$Plane", "meanOrSquares", "(IZ)J"⟩
abbrev b_P_meanOrSquares_IZ : ByteArray := prog_3_method_11_code
theorem d_P_meanOrSquares_IZ_0 : decode b_P_meanOrSquares_IZ 0 = .ok (.lconst 0, 1) := by decide +kernel
theorem d_P_meanOrSquares_IZ_1 : decode b_P_meanOrSquares_IZ 1 = .ok (.lstore_n 3, 1) := by decide +kernel
theorem d_P_meanOrSquares_IZ_2 : decode b_P_meanOrSquares_IZ 2 = .ok (.lconst 0, 1) := by decide +kernel
theorem d_P_meanOrSquares_IZ_3 : decode b_P_meanOrSquares_IZ 3 = .ok (.lstore 5, 2) := by decide +kernel
theorem d_P_meanOrSquares_IZ_5 : decode b_P_meanOrSquares_IZ 5 = .ok (.iconst 0, 1) := by decide +kernel
theorem d_P_meanOrSquares_IZ_6 : decode b_P_meanOrSquares_IZ 6 = .ok (.istore 7, 2) := by decide +kernel
theorem d_P_meanOrSquares_IZ_8 : decode b_P_meanOrSquares_IZ 8 = .ok (.iload 7, 2) := by decide +kernel
theorem d_P_meanOrSquares_IZ_10 : decode b_P_meanOrSquares_IZ 10 = .ok (.bipush 8, 2) := by decide +kernel
theorem d_P_meanOrSquares_IZ_12 : decode b_P_meanOrSquares_IZ 12 = .ok (.if_icmp .ge 62, 3) := by decide +kernel
theorem d_P_meanOrSquares_IZ_15 : decode b_P_meanOrSquares_IZ 15 = .ok (.aload_n 0, 1) := by decide +kernel
theorem d_P_meanOrSquares_IZ_16 : decode b_P_meanOrSquares_IZ 16 = .ok (.iload 7, 2) := by decide +kernel
theorem d_P_meanOrSquares_IZ_18 : decode b_P_meanOrSquares_IZ 18 = .ok (.iload_n 1, 1) := by decide +kernel
theorem d_P_meanOrSquares_IZ_19 : decode b_P_meanOrSquares_IZ 19 = .ok (.invokevirtual 76, 3) := by decide +kernel
theorem d_P_meanOrSquares_IZ_22 : decode b_P_meanOrSquares_IZ 22 = .ok (.lstore 8, 2) := by decide +kernel
theorem d_P_meanOrSquares_IZ_24 : decode b_P_meanOrSquares_IZ 24 = .ok (.lload 8, 2) := by decide +kernel
theorem d_P_meanOrSquares_IZ_26 : decode b_P_meanOrSquares_IZ 26 = .ok (.lload_n 3, 1) := by decide +kernel
theorem d_P_meanOrSquares_IZ_27 : decode b_P_meanOrSquares_IZ 27 = .ok (.invokestatic 70, 3) := by decide +kernel
theorem d_P_meanOrSquares_IZ_30 : decode b_P_meanOrSquares_IZ 30 = .ok (.lstore 10, 2) := by decide +kernel
theorem d_P_meanOrSquares_IZ_32 : decode b_P_meanOrSquares_IZ 32 = .ok (.lload_n 3, 1) := by decide +kernel
theorem d_P_meanOrSquares_IZ_33 : decode b_P_meanOrSquares_IZ 33 = .ok (.lload 10, 2) := by decide +kernel
theorem d_P_meanOrSquares_IZ_35 : decode b_P_meanOrSquares_IZ 35 = .ok (.iload 7, 2) := by decide +kernel
theorem d_P_meanOrSquares_IZ_37 : decode b_P_meanOrSquares_IZ 37 = .ok (.iconst 1, 1) := by decide +kernel
theorem d_P_meanOrSquares_IZ_38 : decode b_P_meanOrSquares_IZ 38 = .ok (.iadd, 1) := by decide +kernel
theorem d_P_meanOrSquares_IZ_39 : decode b_P_meanOrSquares_IZ 39 = .ok (.i2l, 1) := by decide +kernel
theorem d_P_meanOrSquares_IZ_40 : decode b_P_meanOrSquares_IZ 40 = .ok (.invokestatic 80, 3) := by decide +kernel
theorem d_P_meanOrSquares_IZ_43 : decode b_P_meanOrSquares_IZ 43 = .ok (.invokestatic 83, 3) := by decide +kernel
theorem d_P_meanOrSquares_IZ_46 : decode b_P_meanOrSquares_IZ 46 = .ok (.invokestatic 63, 3) := by decide +kernel
theorem d_P_meanOrSquares_IZ_49 : decode b_P_meanOrSquares_IZ 49 = .ok (.lstore_n 3, 1) := by decide +kernel
theorem d_P_meanOrSquares_IZ_50 : decode b_P_meanOrSquares_IZ 50 = .ok (.lload 5, 2) := by decide +kernel
theorem d_P_meanOrSquares_IZ_52 : decode b_P_meanOrSquares_IZ 52 = .ok (.lload 10, 2) := by decide +kernel
theorem d_P_meanOrSquares_IZ_54 : decode b_P_meanOrSquares_IZ 54 = .ok (.lload 8, 2) := by decide +kernel
theorem d_P_meanOrSquares_IZ_56 : decode b_P_meanOrSquares_IZ 56 = .ok (.lload_n 3, 1) := by decide +kernel
theorem d_P_meanOrSquares_IZ_57 : decode b_P_meanOrSquares_IZ 57 = .ok (.invokestatic 70, 3) := by decide +kernel
theorem d_P_meanOrSquares_IZ_60 : decode b_P_meanOrSquares_IZ 60 = .ok (.invokestatic 86, 3) := by decide +kernel
theorem d_P_meanOrSquares_IZ_63 : decode b_P_meanOrSquares_IZ 63 = .ok (.invokestatic 63, 3) := by decide +kernel
theorem d_P_meanOrSquares_IZ_66 : decode b_P_meanOrSquares_IZ 66 = .ok (.lstore 5, 2) := by decide +kernel
theorem d_P_meanOrSquares_IZ_68 : decode b_P_meanOrSquares_IZ 68 = .ok (.iinc 7 1, 3) := by decide +kernel
theorem d_P_meanOrSquares_IZ_71 : decode b_P_meanOrSquares_IZ 71 = .ok (.goto (-63), 3) := by decide +kernel
theorem d_P_meanOrSquares_IZ_74 : decode b_P_meanOrSquares_IZ 74 = .ok (.iload_n 2, 1) := by decide +kernel
theorem d_P_meanOrSquares_IZ_75 : decode b_P_meanOrSquares_IZ 75 = .ok (.ifCond .eq 8, 3) := by decide +kernel
theorem d_P_meanOrSquares_IZ_78 : decode b_P_meanOrSquares_IZ 78 = .ok (.lload 5, 2) := by decide +kernel
theorem d_P_meanOrSquares_IZ_80 : decode b_P_meanOrSquares_IZ 80 = .ok (.goto 4, 3) := by decide +kernel
theorem d_P_meanOrSquares_IZ_83 : decode b_P_meanOrSquares_IZ 83 = .ok (.lload_n 3, 1) := by decide +kernel
theorem d_P_meanOrSquares_IZ_84 : decode b_P_meanOrSquares_IZ 84 = .ok (.lreturn, 1) := by decide +kernel
def f_P_meanOrSquares_IZ (S : CS) (x1 : Int32) (x2 : Int32) : Int64 :=
  let v1 : Int64 := f_P_bodyNumber_II S (0 : Int32) x1
  let v2 : Int64 := f_I_difference_JJ v1 (0 : Int64)
  let v4 : Int64 := f_I_sum_JJ (0 : Int64) (f_I_quotient_JJ v2 (f_I_ofWhole_J ((1 : Int32).toInt64)))
  let v5 : Int64 := f_I_sum_JJ (0 : Int64) (f_I_product_JJ v2 (f_I_difference_JJ v1 v4))
  let v6 : Int64 := f_P_bodyNumber_II S (1 : Int32) x1
  let v7 : Int64 := f_I_difference_JJ v6 v4
  let v9 : Int64 := f_I_sum_JJ v4 (f_I_quotient_JJ v7 (f_I_ofWhole_J ((2 : Int32).toInt64)))
  let v10 : Int64 := f_I_sum_JJ v5 (f_I_product_JJ v7 (f_I_difference_JJ v6 v9))
  let v11 : Int64 := f_P_bodyNumber_II S (2 : Int32) x1
  let v12 : Int64 := f_I_difference_JJ v11 v9
  let v14 : Int64 := f_I_sum_JJ v9 (f_I_quotient_JJ v12 (f_I_ofWhole_J ((3 : Int32).toInt64)))
  let v15 : Int64 := f_I_sum_JJ v10 (f_I_product_JJ v12 (f_I_difference_JJ v11 v14))
  let v16 : Int64 := f_P_bodyNumber_II S (3 : Int32) x1
  let v17 : Int64 := f_I_difference_JJ v16 v14
  let v19 : Int64 := f_I_sum_JJ v14 (f_I_quotient_JJ v17 (f_I_ofWhole_J ((4 : Int32).toInt64)))
  let v20 : Int64 := f_I_sum_JJ v15 (f_I_product_JJ v17 (f_I_difference_JJ v16 v19))
  let v21 : Int64 := f_P_bodyNumber_II S (4 : Int32) x1
  let v22 : Int64 := f_I_difference_JJ v21 v19
  let v24 : Int64 := f_I_sum_JJ v19 (f_I_quotient_JJ v22 (f_I_ofWhole_J ((5 : Int32).toInt64)))
  let v25 : Int64 := f_I_sum_JJ v20 (f_I_product_JJ v22 (f_I_difference_JJ v21 v24))
  let v26 : Int64 := f_P_bodyNumber_II S (5 : Int32) x1
  let v27 : Int64 := f_I_difference_JJ v26 v24
  let v29 : Int64 := f_I_sum_JJ v24 (f_I_quotient_JJ v27 (f_I_ofWhole_J ((6 : Int32).toInt64)))
  let v30 : Int64 := f_I_sum_JJ v25 (f_I_product_JJ v27 (f_I_difference_JJ v26 v29))
  let v31 : Int64 := f_P_bodyNumber_II S (6 : Int32) x1
  let v32 : Int64 := f_I_difference_JJ v31 v29
  let v34 : Int64 := f_I_sum_JJ v29 (f_I_quotient_JJ v32 (f_I_ofWhole_J ((7 : Int32).toInt64)))
  let v35 : Int64 := f_I_sum_JJ v30 (f_I_product_JJ v32 (f_I_difference_JJ v31 v34))
  let v36 : Int64 := f_P_bodyNumber_II S (7 : Int32) x1
  let v37 : Int64 := f_I_difference_JJ v36 v34
  let v39 : Int64 := f_I_sum_JJ v34 (f_I_quotient_JJ v37 (f_I_ofWhole_J ((8 : Int32).toInt64)))
  let v40 : Int64 := f_I_sum_JJ v35 (f_I_product_JJ v37 (f_I_difference_JJ v36 v39))
  if x2 = 0 then
    v39
  else
    v40
set_option maxHeartbeats 4000000 in
set_option maxRecDepth 100000 in
theorem c_P_meanOrSquares_IZ (l : Launch) (dC : Nat → ClassId) (dI : Nat → Nat → Nat) (ad : Nat → Nat) (cJ cI : ClassId) (S : CS) (x1 : Int32) (x2 : Int32) (hk_x1 : vp_in x1 6) (sz : Nat) : hMl l y_P_meanOrSquares_IZ (gw y_P_meanOrSquares_IZ b_P_meanOrSquares_IZ 12 (some .long)) { frames := 5, cells := 0, slots := 0, locals := 127 } [.ref (ad 1), .int x1, .int x2] (dC, dI) classes (tysJI cJ cI) (fun _ => True) (cW ad cJ cI S) sz (f_P_meanOrSquares_IZ S x1 x2) (cW ad cJ cI S) := by
  refine Met.ofW (cc := b_P_meanOrSquares_IZ) (maxL := 12) (ret := (some .long)) (by decide) rfl ?_
  intro p e s m args below meth c s₁ B hml hv
  obtain ⟨rfl, hsz, hP, hK, hD0, hRT⟩ := hv
  have hx := B.exec
  have hb := B.bytes
  have hr := B.returns
  have hts := atoms_spec (ws := (gw y_P_meanOrSquares_IZ b_P_meanOrSquares_IZ 12 (some .long))) B.pre
  have hown : s.vm.findClass "MotionLab$Plane" = some m.cls := findClass_of_methodNamed B.named
  have hlocks := B.notSynchronized
  subst hsz
  have hD := hD0.self (sz := s.heap.size)
  generalize hAe : va_A (cW ad cJ cI S) s.heap.size = A at hD
  have hA : ∀ q : Nat, s.heap.size ≤ q → A q := fun q h => by rw [← hAe]; exact Or.inr h
  have G : hG (dC, dI) classes A s.heap (cW ad cJ cI S) s.heap [] := ⟨hP, hD, va_S.rf⟩
  have hl := lv_entry ([.ref (ad 1), .int x1, .int x2]) (n := 12) (Nat.le_of_ble_eq_true rfl)
  rw [lg_entry_eq]
  generalize (lg_sl ([.ref (ad 1), .int x1, .int x2]) ++ List.replicate (12 - (lg_sl ([.ref (ad 1), .int x1, .int x2])).length) Slot.unset).toArray = ls at hl ⊢
  have hl : lv_has ls 12 [(0, .ref (ad 1)), (1, .int x1), (2, .int x2)] := hl
  refine lv_lconst (v := (0 : Int64)) hx hb d_P_meanOrSquares_IZ_0 (by decide) ?_
  refine lv_lstore_n (lv' := [(3, .long (0 : Int64)), (0, .ref (ad 1)), (1, .int x1), (2, .int x2)]) hx hb d_P_meanOrSquares_IZ_1 rfl hl (by decide) rfl (fun ls hl => ?_)
  refine lv_lconst (v := (0 : Int64)) hx hb d_P_meanOrSquares_IZ_2 (by decide) ?_
  refine lv_lstore (lv' := [(5, .long (0 : Int64)), (3, .long (0 : Int64)), (0, .ref (ad 1)), (1, .int x1), (2, .int x2)]) hx hb d_P_meanOrSquares_IZ_3 hl (by decide) rfl (fun ls hl => ?_)
  refine lv_iconst (v := 0) hx hb d_P_meanOrSquares_IZ_5 (by decide) ?_
  refine lv_istore (lv' := [(7, .int (0 : Int32)), (5, .long (0 : Int64)), (3, .long (0 : Int64)), (0, .ref (ad 1)), (1, .int x1), (2, .int x2)]) hx hb d_P_meanOrSquares_IZ_6 hl (by decide) rfl (fun ls hl => ?_)
  refine lv_iload hx hb d_P_meanOrSquares_IZ_8 (lv_at hl 0 rfl) ?_
  refine lv_bipush (v := (8 : Int32)) hx hb d_P_meanOrSquares_IZ_10 (by decide) ?_
  refine lv_icmp_ge (tgt := 74) hx hb d_P_meanOrSquares_IZ_12 (by decide) (fun c0 => absurd c0 (by decide)) (fun _ => ?_)
  refine lv_aload_n hx hb d_P_meanOrSquares_IZ_15 rfl (lv_at hl 3 rfl) ?_
  refine lv_iload hx hb d_P_meanOrSquares_IZ_16 (lv_at hl 0 rfl) ?_
  refine lv_iload_n hx hb d_P_meanOrSquares_IZ_18 rfl (lv_at hl 4 rfl) ?_
  refine hg_cl (As := [.int (0 : Int32), .int x1]) (rest := []) ⟨hx, hb, hml, hown, hts⟩ (c_P_bodyNumber_II l dC dI ad cJ cI S (0 : Int32) x1 (in_of (by decide) (by decide)) hk_x1 _) (gw_callV (k := 2) hts tw_393 tw_275 tw_276 tw_2 tw_277 (by decide +kernel) rfl rfl ⟨Nat.le_of_ble_eq_true rfl, Nat.le_of_ble_eq_true rfl⟩) hK G hA (hx_T _ _) 1 1 rfl rfl rfl hl.1 rfl (Nat.le_of_ble_eq_true rfl) ⟨Nat.zero_le _, Nat.zero_le _⟩ d_P_meanOrSquares_IZ_19 (fun H locs G => ?_)
  refine lv_topl (fun v1 e1 => ?_)
  refine lv_lstore (lv' := [(8, .long v1), (7, .int (0 : Int32)), (5, .long (0 : Int64)), (3, .long (0 : Int64)), (0, .ref (ad 1)), (1, .int x1), (2, .int x2)]) hx hb d_P_meanOrSquares_IZ_22 hl (by decide) rfl (fun ls hl => ?_)
  refine lv_lload hx hb d_P_meanOrSquares_IZ_24 (lv_at hl 0 rfl) ?_
  refine lv_lload_n hx hb d_P_meanOrSquares_IZ_26 rfl (lv_at hl 3 rfl) ?_
  refine pu_l (As := [.long v1, .long (0 : Int64)]) (rest := []) ⟨hx, hb, hml, hown, hts⟩ (c_I_difference_JJ l _ v1 (0 : Int64)) pu_pre (gw_call (k := 2) hts tw_188 tw_189 tw_5 tw_190 (by decide +kernel) rfl rfl ⟨Nat.le_of_ble_eq_true rfl, Nat.le_of_ble_eq_true rfl⟩) rfl hl.1 rfl (Nat.le_of_ble_eq_true rfl) ⟨Nat.zero_le _, Nat.zero_le _⟩ d_P_meanOrSquares_IZ_27 ?_
  refine lv_topl (fun v2 e2 => ?_)
  refine lv_lstore (lv' := [(10, .long v2), (8, .long v1), (7, .int (0 : Int32)), (5, .long (0 : Int64)), (3, .long (0 : Int64)), (0, .ref (ad 1)), (1, .int x1), (2, .int x2)]) hx hb d_P_meanOrSquares_IZ_30 hl (by decide) rfl (fun ls hl => ?_)
  refine lv_lload_n hx hb d_P_meanOrSquares_IZ_32 rfl (lv_at hl 4 rfl) ?_
  refine lv_lload hx hb d_P_meanOrSquares_IZ_33 (lv_at hl 0 rfl) ?_
  refine lv_iload hx hb d_P_meanOrSquares_IZ_35 (lv_at hl 2 rfl) ?_
  refine lv_iconst (v := 1) hx hb d_P_meanOrSquares_IZ_37 (by decide) ?_
  refine lv_iadd hx hb d_P_meanOrSquares_IZ_38 ?_
  refine lv_topi (fun v3 e3 => ?_)
  obtain rfl : v3 = (1 : Int32) := by rw [e3]; decide
  refine lv_i2l hx hb d_P_meanOrSquares_IZ_39 rfl ?_
  refine pu_l (As := [.long ((1 : Int32).toInt64)]) (rest := [.long v2, .long (0 : Int64)]) ⟨hx, hb, hml, hown, hts⟩ (c_I_ofWhole_J l _ ((1 : Int32).toInt64)) pu_pre (gw_call (k := 1) hts tw_394 tw_330 tw_5 tw_331 (by decide +kernel) rfl rfl ⟨Nat.le_of_ble_eq_true rfl, Nat.le_of_ble_eq_true rfl⟩) rfl hl.1 rfl (Nat.le_of_ble_eq_true rfl) ⟨Nat.zero_le _, Nat.zero_le _⟩ d_P_meanOrSquares_IZ_40 ?_
  refine pu_l (As := [.long v2, .long (f_I_ofWhole_J ((1 : Int32).toInt64))]) (rest := [.long (0 : Int64)]) ⟨hx, hb, hml, hown, hts⟩ (c_I_quotient_JJ l _ v2 (f_I_ofWhole_J ((1 : Int32).toInt64))) pu_pre (gw_call (k := 2) hts tw_248 tw_224 tw_5 tw_225 (by decide +kernel) rfl rfl ⟨Nat.le_of_ble_eq_true rfl, Nat.le_of_ble_eq_true rfl⟩) rfl hl.1 rfl (Nat.le_of_ble_eq_true rfl) ⟨Nat.zero_le _, Nat.zero_le _⟩ d_P_meanOrSquares_IZ_43 ?_
  refine pu_l (As := [.long (0 : Int64), .long (f_I_quotient_JJ v2 (f_I_ofWhole_J ((1 : Int32).toInt64)))]) (rest := []) ⟨hx, hb, hml, hown, hts⟩ (c_I_sum_JJ l _ (0 : Int64) (f_I_quotient_JJ v2 (f_I_ofWhole_J ((1 : Int32).toInt64)))) pu_pre (gw_call (k := 2) hts tw_249 tw_192 tw_5 tw_193 (by decide +kernel) rfl rfl ⟨Nat.le_of_ble_eq_true rfl, Nat.le_of_ble_eq_true rfl⟩) rfl hl.1 rfl (Nat.le_of_ble_eq_true rfl) ⟨Nat.zero_le _, Nat.zero_le _⟩ d_P_meanOrSquares_IZ_46 ?_
  refine lv_topl (fun v4 e4 => ?_)
  refine lv_lstore_n (lv' := [(3, .long v4), (10, .long v2), (8, .long v1), (7, .int (0 : Int32)), (5, .long (0 : Int64)), (0, .ref (ad 1)), (1, .int x1), (2, .int x2)]) hx hb d_P_meanOrSquares_IZ_49 rfl hl (by decide) rfl (fun ls hl => ?_)
  refine lv_lload hx hb d_P_meanOrSquares_IZ_50 (lv_at hl 4 rfl) ?_
  refine lv_lload hx hb d_P_meanOrSquares_IZ_52 (lv_at hl 1 rfl) ?_
  refine lv_lload hx hb d_P_meanOrSquares_IZ_54 (lv_at hl 2 rfl) ?_
  refine lv_lload_n hx hb d_P_meanOrSquares_IZ_56 rfl (lv_at hl 0 rfl) ?_
  refine pu_l (As := [.long v1, .long v4]) (rest := [.long v2, .long (0 : Int64)]) ⟨hx, hb, hml, hown, hts⟩ (c_I_difference_JJ l _ v1 v4) pu_pre (gw_call (k := 2) hts tw_188 tw_189 tw_5 tw_190 (by decide +kernel) rfl rfl ⟨Nat.le_of_ble_eq_true rfl, Nat.le_of_ble_eq_true rfl⟩) rfl hl.1 rfl (Nat.le_of_ble_eq_true rfl) ⟨Nat.zero_le _, Nat.zero_le _⟩ d_P_meanOrSquares_IZ_57 ?_
  refine pu_l (As := [.long v2, .long (f_I_difference_JJ v1 v4)]) (rest := [.long (0 : Int64)]) ⟨hx, hb, hml, hown, hts⟩ (c_I_product_JJ l _ v2 (f_I_difference_JJ v1 v4)) pu_pre (gw_call (k := 2) hts tw_174 tw_175 tw_5 tw_176 (by decide +kernel) rfl rfl ⟨Nat.le_of_ble_eq_true rfl, Nat.le_of_ble_eq_true rfl⟩) rfl hl.1 rfl (Nat.le_of_ble_eq_true rfl) ⟨Nat.zero_le _, Nat.zero_le _⟩ d_P_meanOrSquares_IZ_60 ?_
  refine pu_l (As := [.long (0 : Int64), .long (f_I_product_JJ v2 (f_I_difference_JJ v1 v4))]) (rest := []) ⟨hx, hb, hml, hown, hts⟩ (c_I_sum_JJ l _ (0 : Int64) (f_I_product_JJ v2 (f_I_difference_JJ v1 v4))) pu_pre (gw_call (k := 2) hts tw_249 tw_192 tw_5 tw_193 (by decide +kernel) rfl rfl ⟨Nat.le_of_ble_eq_true rfl, Nat.le_of_ble_eq_true rfl⟩) rfl hl.1 rfl (Nat.le_of_ble_eq_true rfl) ⟨Nat.zero_le _, Nat.zero_le _⟩ d_P_meanOrSquares_IZ_63 ?_
  refine lv_topl (fun v5 e5 => ?_)
  refine lv_lstore (lv' := [(5, .long v5), (3, .long v4), (10, .long v2), (8, .long v1), (7, .int (0 : Int32)), (0, .ref (ad 1)), (1, .int x1), (2, .int x2)]) hx hb d_P_meanOrSquares_IZ_66 hl (by decide) rfl (fun ls hl => ?_)
  refine lv_iinc (v := (1 : Int32)) (lv' := [(7, .int (1 : Int32)), (5, .long v5), (3, .long v4), (10, .long v2), (8, .long v1), (0, .ref (ad 1)), (1, .int x1), (2, .int x2)]) hx hb d_P_meanOrSquares_IZ_68 hl (k := 4) rfl (by decide) (by decide) rfl (fun ls hl => ?_)
  refine lv_goto (tgt := 8) hx hb d_P_meanOrSquares_IZ_71 (by decide) ?_
  refine lv_iload hx hb d_P_meanOrSquares_IZ_8 (lv_at hl 0 rfl) ?_
  refine lv_bipush (v := (8 : Int32)) hx hb d_P_meanOrSquares_IZ_10 (by decide) ?_
  refine lv_icmp_ge (tgt := 74) hx hb d_P_meanOrSquares_IZ_12 (by decide) (fun c0 => absurd c0 (by decide)) (fun _ => ?_)
  refine lv_aload_n hx hb d_P_meanOrSquares_IZ_15 rfl (lv_at hl 5 rfl) ?_
  refine lv_iload hx hb d_P_meanOrSquares_IZ_16 (lv_at hl 0 rfl) ?_
  refine lv_iload_n hx hb d_P_meanOrSquares_IZ_18 rfl (lv_at hl 6 rfl) ?_
  refine hg_cl (As := [.int (1 : Int32), .int x1]) (rest := []) ⟨hx, hb, hml, hown, hts⟩ (c_P_bodyNumber_II l dC dI ad cJ cI S (1 : Int32) x1 (in_of (by decide) (by decide)) hk_x1 _) (gw_callV (k := 2) hts tw_393 tw_275 tw_276 tw_2 tw_277 (by decide +kernel) rfl rfl ⟨Nat.le_of_ble_eq_true rfl, Nat.le_of_ble_eq_true rfl⟩) hK G hA (hx_T _ _) 1 1 rfl rfl rfl hl.1 rfl (Nat.le_of_ble_eq_true rfl) ⟨Nat.zero_le _, Nat.zero_le _⟩ d_P_meanOrSquares_IZ_19 (fun H locs G => ?_)
  refine lv_topl (fun v6 e6 => ?_)
  refine lv_lstore (lv' := [(8, .long v6), (7, .int (1 : Int32)), (5, .long v5), (3, .long v4), (10, .long v2), (0, .ref (ad 1)), (1, .int x1), (2, .int x2)]) hx hb d_P_meanOrSquares_IZ_22 hl (by decide) rfl (fun ls hl => ?_)
  refine lv_lload hx hb d_P_meanOrSquares_IZ_24 (lv_at hl 0 rfl) ?_
  refine lv_lload_n hx hb d_P_meanOrSquares_IZ_26 rfl (lv_at hl 3 rfl) ?_
  refine pu_l (As := [.long v6, .long v4]) (rest := []) ⟨hx, hb, hml, hown, hts⟩ (c_I_difference_JJ l _ v6 v4) pu_pre (gw_call (k := 2) hts tw_188 tw_189 tw_5 tw_190 (by decide +kernel) rfl rfl ⟨Nat.le_of_ble_eq_true rfl, Nat.le_of_ble_eq_true rfl⟩) rfl hl.1 rfl (Nat.le_of_ble_eq_true rfl) ⟨Nat.zero_le _, Nat.zero_le _⟩ d_P_meanOrSquares_IZ_27 ?_
  refine lv_topl (fun v7 e7 => ?_)
  refine lv_lstore (lv' := [(10, .long v7), (8, .long v6), (7, .int (1 : Int32)), (5, .long v5), (3, .long v4), (0, .ref (ad 1)), (1, .int x1), (2, .int x2)]) hx hb d_P_meanOrSquares_IZ_30 hl (by decide) rfl (fun ls hl => ?_)
  refine lv_lload_n hx hb d_P_meanOrSquares_IZ_32 rfl (lv_at hl 4 rfl) ?_
  refine lv_lload hx hb d_P_meanOrSquares_IZ_33 (lv_at hl 0 rfl) ?_
  refine lv_iload hx hb d_P_meanOrSquares_IZ_35 (lv_at hl 2 rfl) ?_
  refine lv_iconst (v := 1) hx hb d_P_meanOrSquares_IZ_37 (by decide) ?_
  refine lv_iadd hx hb d_P_meanOrSquares_IZ_38 ?_
  refine lv_topi (fun v8 e8 => ?_)
  obtain rfl : v8 = (2 : Int32) := by rw [e8]; decide
  refine lv_i2l hx hb d_P_meanOrSquares_IZ_39 rfl ?_
  refine pu_l (As := [.long ((2 : Int32).toInt64)]) (rest := [.long v7, .long v4]) ⟨hx, hb, hml, hown, hts⟩ (c_I_ofWhole_J l _ ((2 : Int32).toInt64)) pu_pre (gw_call (k := 1) hts tw_394 tw_330 tw_5 tw_331 (by decide +kernel) rfl rfl ⟨Nat.le_of_ble_eq_true rfl, Nat.le_of_ble_eq_true rfl⟩) rfl hl.1 rfl (Nat.le_of_ble_eq_true rfl) ⟨Nat.zero_le _, Nat.zero_le _⟩ d_P_meanOrSquares_IZ_40 ?_
  refine pu_l (As := [.long v7, .long (f_I_ofWhole_J ((2 : Int32).toInt64))]) (rest := [.long v4]) ⟨hx, hb, hml, hown, hts⟩ (c_I_quotient_JJ l _ v7 (f_I_ofWhole_J ((2 : Int32).toInt64))) pu_pre (gw_call (k := 2) hts tw_248 tw_224 tw_5 tw_225 (by decide +kernel) rfl rfl ⟨Nat.le_of_ble_eq_true rfl, Nat.le_of_ble_eq_true rfl⟩) rfl hl.1 rfl (Nat.le_of_ble_eq_true rfl) ⟨Nat.zero_le _, Nat.zero_le _⟩ d_P_meanOrSquares_IZ_43 ?_
  refine pu_l (As := [.long v4, .long (f_I_quotient_JJ v7 (f_I_ofWhole_J ((2 : Int32).toInt64)))]) (rest := []) ⟨hx, hb, hml, hown, hts⟩ (c_I_sum_JJ l _ v4 (f_I_quotient_JJ v7 (f_I_ofWhole_J ((2 : Int32).toInt64)))) pu_pre (gw_call (k := 2) hts tw_249 tw_192 tw_5 tw_193 (by decide +kernel) rfl rfl ⟨Nat.le_of_ble_eq_true rfl, Nat.le_of_ble_eq_true rfl⟩) rfl hl.1 rfl (Nat.le_of_ble_eq_true rfl) ⟨Nat.zero_le _, Nat.zero_le _⟩ d_P_meanOrSquares_IZ_46 ?_
  refine lv_topl (fun v9 e9 => ?_)
  refine lv_lstore_n (lv' := [(3, .long v9), (10, .long v7), (8, .long v6), (7, .int (1 : Int32)), (5, .long v5), (0, .ref (ad 1)), (1, .int x1), (2, .int x2)]) hx hb d_P_meanOrSquares_IZ_49 rfl hl (by decide) rfl (fun ls hl => ?_)
  refine lv_lload hx hb d_P_meanOrSquares_IZ_50 (lv_at hl 4 rfl) ?_
  refine lv_lload hx hb d_P_meanOrSquares_IZ_52 (lv_at hl 1 rfl) ?_
  refine lv_lload hx hb d_P_meanOrSquares_IZ_54 (lv_at hl 2 rfl) ?_
  refine lv_lload_n hx hb d_P_meanOrSquares_IZ_56 rfl (lv_at hl 0 rfl) ?_
  refine pu_l (As := [.long v6, .long v9]) (rest := [.long v7, .long v5]) ⟨hx, hb, hml, hown, hts⟩ (c_I_difference_JJ l _ v6 v9) pu_pre (gw_call (k := 2) hts tw_188 tw_189 tw_5 tw_190 (by decide +kernel) rfl rfl ⟨Nat.le_of_ble_eq_true rfl, Nat.le_of_ble_eq_true rfl⟩) rfl hl.1 rfl (Nat.le_of_ble_eq_true rfl) ⟨Nat.zero_le _, Nat.zero_le _⟩ d_P_meanOrSquares_IZ_57 ?_
  refine pu_l (As := [.long v7, .long (f_I_difference_JJ v6 v9)]) (rest := [.long v5]) ⟨hx, hb, hml, hown, hts⟩ (c_I_product_JJ l _ v7 (f_I_difference_JJ v6 v9)) pu_pre (gw_call (k := 2) hts tw_174 tw_175 tw_5 tw_176 (by decide +kernel) rfl rfl ⟨Nat.le_of_ble_eq_true rfl, Nat.le_of_ble_eq_true rfl⟩) rfl hl.1 rfl (Nat.le_of_ble_eq_true rfl) ⟨Nat.zero_le _, Nat.zero_le _⟩ d_P_meanOrSquares_IZ_60 ?_
  refine pu_l (As := [.long v5, .long (f_I_product_JJ v7 (f_I_difference_JJ v6 v9))]) (rest := []) ⟨hx, hb, hml, hown, hts⟩ (c_I_sum_JJ l _ v5 (f_I_product_JJ v7 (f_I_difference_JJ v6 v9))) pu_pre (gw_call (k := 2) hts tw_249 tw_192 tw_5 tw_193 (by decide +kernel) rfl rfl ⟨Nat.le_of_ble_eq_true rfl, Nat.le_of_ble_eq_true rfl⟩) rfl hl.1 rfl (Nat.le_of_ble_eq_true rfl) ⟨Nat.zero_le _, Nat.zero_le _⟩ d_P_meanOrSquares_IZ_63 ?_
  refine lv_topl (fun v10 e10 => ?_)
  refine lv_lstore (lv' := [(5, .long v10), (3, .long v9), (10, .long v7), (8, .long v6), (7, .int (1 : Int32)), (0, .ref (ad 1)), (1, .int x1), (2, .int x2)]) hx hb d_P_meanOrSquares_IZ_66 hl (by decide) rfl (fun ls hl => ?_)
  refine lv_iinc (v := (2 : Int32)) (lv' := [(7, .int (2 : Int32)), (5, .long v10), (3, .long v9), (10, .long v7), (8, .long v6), (0, .ref (ad 1)), (1, .int x1), (2, .int x2)]) hx hb d_P_meanOrSquares_IZ_68 hl (k := 4) rfl (by decide) (by decide) rfl (fun ls hl => ?_)
  refine lv_goto (tgt := 8) hx hb d_P_meanOrSquares_IZ_71 (by decide) ?_
  refine lv_iload hx hb d_P_meanOrSquares_IZ_8 (lv_at hl 0 rfl) ?_
  refine lv_bipush (v := (8 : Int32)) hx hb d_P_meanOrSquares_IZ_10 (by decide) ?_
  refine lv_icmp_ge (tgt := 74) hx hb d_P_meanOrSquares_IZ_12 (by decide) (fun c0 => absurd c0 (by decide)) (fun _ => ?_)
  refine lv_aload_n hx hb d_P_meanOrSquares_IZ_15 rfl (lv_at hl 5 rfl) ?_
  refine lv_iload hx hb d_P_meanOrSquares_IZ_16 (lv_at hl 0 rfl) ?_
  refine lv_iload_n hx hb d_P_meanOrSquares_IZ_18 rfl (lv_at hl 6 rfl) ?_
  refine hg_cl (As := [.int (2 : Int32), .int x1]) (rest := []) ⟨hx, hb, hml, hown, hts⟩ (c_P_bodyNumber_II l dC dI ad cJ cI S (2 : Int32) x1 (in_of (by decide) (by decide)) hk_x1 _) (gw_callV (k := 2) hts tw_393 tw_275 tw_276 tw_2 tw_277 (by decide +kernel) rfl rfl ⟨Nat.le_of_ble_eq_true rfl, Nat.le_of_ble_eq_true rfl⟩) hK G hA (hx_T _ _) 1 1 rfl rfl rfl hl.1 rfl (Nat.le_of_ble_eq_true rfl) ⟨Nat.zero_le _, Nat.zero_le _⟩ d_P_meanOrSquares_IZ_19 (fun H locs G => ?_)
  refine lv_topl (fun v11 e11 => ?_)
  refine lv_lstore (lv' := [(8, .long v11), (7, .int (2 : Int32)), (5, .long v10), (3, .long v9), (10, .long v7), (0, .ref (ad 1)), (1, .int x1), (2, .int x2)]) hx hb d_P_meanOrSquares_IZ_22 hl (by decide) rfl (fun ls hl => ?_)
  refine lv_lload hx hb d_P_meanOrSquares_IZ_24 (lv_at hl 0 rfl) ?_
  refine lv_lload_n hx hb d_P_meanOrSquares_IZ_26 rfl (lv_at hl 3 rfl) ?_
  refine pu_l (As := [.long v11, .long v9]) (rest := []) ⟨hx, hb, hml, hown, hts⟩ (c_I_difference_JJ l _ v11 v9) pu_pre (gw_call (k := 2) hts tw_188 tw_189 tw_5 tw_190 (by decide +kernel) rfl rfl ⟨Nat.le_of_ble_eq_true rfl, Nat.le_of_ble_eq_true rfl⟩) rfl hl.1 rfl (Nat.le_of_ble_eq_true rfl) ⟨Nat.zero_le _, Nat.zero_le _⟩ d_P_meanOrSquares_IZ_27 ?_
  refine lv_topl (fun v12 e12 => ?_)
  refine lv_lstore (lv' := [(10, .long v12), (8, .long v11), (7, .int (2 : Int32)), (5, .long v10), (3, .long v9), (0, .ref (ad 1)), (1, .int x1), (2, .int x2)]) hx hb d_P_meanOrSquares_IZ_30 hl (by decide) rfl (fun ls hl => ?_)
  refine lv_lload_n hx hb d_P_meanOrSquares_IZ_32 rfl (lv_at hl 4 rfl) ?_
  refine lv_lload hx hb d_P_meanOrSquares_IZ_33 (lv_at hl 0 rfl) ?_
  refine lv_iload hx hb d_P_meanOrSquares_IZ_35 (lv_at hl 2 rfl) ?_
  refine lv_iconst (v := 1) hx hb d_P_meanOrSquares_IZ_37 (by decide) ?_
  refine lv_iadd hx hb d_P_meanOrSquares_IZ_38 ?_
  refine lv_topi (fun v13 e13 => ?_)
  obtain rfl : v13 = (3 : Int32) := by rw [e13]; decide
  refine lv_i2l hx hb d_P_meanOrSquares_IZ_39 rfl ?_
  refine pu_l (As := [.long ((3 : Int32).toInt64)]) (rest := [.long v12, .long v9]) ⟨hx, hb, hml, hown, hts⟩ (c_I_ofWhole_J l _ ((3 : Int32).toInt64)) pu_pre (gw_call (k := 1) hts tw_394 tw_330 tw_5 tw_331 (by decide +kernel) rfl rfl ⟨Nat.le_of_ble_eq_true rfl, Nat.le_of_ble_eq_true rfl⟩) rfl hl.1 rfl (Nat.le_of_ble_eq_true rfl) ⟨Nat.zero_le _, Nat.zero_le _⟩ d_P_meanOrSquares_IZ_40 ?_
  refine pu_l (As := [.long v12, .long (f_I_ofWhole_J ((3 : Int32).toInt64))]) (rest := [.long v9]) ⟨hx, hb, hml, hown, hts⟩ (c_I_quotient_JJ l _ v12 (f_I_ofWhole_J ((3 : Int32).toInt64))) pu_pre (gw_call (k := 2) hts tw_248 tw_224 tw_5 tw_225 (by decide +kernel) rfl rfl ⟨Nat.le_of_ble_eq_true rfl, Nat.le_of_ble_eq_true rfl⟩) rfl hl.1 rfl (Nat.le_of_ble_eq_true rfl) ⟨Nat.zero_le _, Nat.zero_le _⟩ d_P_meanOrSquares_IZ_43 ?_
  refine pu_l (As := [.long v9, .long (f_I_quotient_JJ v12 (f_I_ofWhole_J ((3 : Int32).toInt64)))]) (rest := []) ⟨hx, hb, hml, hown, hts⟩ (c_I_sum_JJ l _ v9 (f_I_quotient_JJ v12 (f_I_ofWhole_J ((3 : Int32).toInt64)))) pu_pre (gw_call (k := 2) hts tw_249 tw_192 tw_5 tw_193 (by decide +kernel) rfl rfl ⟨Nat.le_of_ble_eq_true rfl, Nat.le_of_ble_eq_true rfl⟩) rfl hl.1 rfl (Nat.le_of_ble_eq_true rfl) ⟨Nat.zero_le _, Nat.zero_le _⟩ d_P_meanOrSquares_IZ_46 ?_
  refine lv_topl (fun v14 e14 => ?_)
  refine lv_lstore_n (lv' := [(3, .long v14), (10, .long v12), (8, .long v11), (7, .int (2 : Int32)), (5, .long v10), (0, .ref (ad 1)), (1, .int x1), (2, .int x2)]) hx hb d_P_meanOrSquares_IZ_49 rfl hl (by decide) rfl (fun ls hl => ?_)
  refine lv_lload hx hb d_P_meanOrSquares_IZ_50 (lv_at hl 4 rfl) ?_
  refine lv_lload hx hb d_P_meanOrSquares_IZ_52 (lv_at hl 1 rfl) ?_
  refine lv_lload hx hb d_P_meanOrSquares_IZ_54 (lv_at hl 2 rfl) ?_
  refine lv_lload_n hx hb d_P_meanOrSquares_IZ_56 rfl (lv_at hl 0 rfl) ?_
  refine pu_l (As := [.long v11, .long v14]) (rest := [.long v12, .long v10]) ⟨hx, hb, hml, hown, hts⟩ (c_I_difference_JJ l _ v11 v14) pu_pre (gw_call (k := 2) hts tw_188 tw_189 tw_5 tw_190 (by decide +kernel) rfl rfl ⟨Nat.le_of_ble_eq_true rfl, Nat.le_of_ble_eq_true rfl⟩) rfl hl.1 rfl (Nat.le_of_ble_eq_true rfl) ⟨Nat.zero_le _, Nat.zero_le _⟩ d_P_meanOrSquares_IZ_57 ?_
  refine pu_l (As := [.long v12, .long (f_I_difference_JJ v11 v14)]) (rest := [.long v10]) ⟨hx, hb, hml, hown, hts⟩ (c_I_product_JJ l _ v12 (f_I_difference_JJ v11 v14)) pu_pre (gw_call (k := 2) hts tw_174 tw_175 tw_5 tw_176 (by decide +kernel) rfl rfl ⟨Nat.le_of_ble_eq_true rfl, Nat.le_of_ble_eq_true rfl⟩) rfl hl.1 rfl (Nat.le_of_ble_eq_true rfl) ⟨Nat.zero_le _, Nat.zero_le _⟩ d_P_meanOrSquares_IZ_60 ?_
  refine pu_l (As := [.long v10, .long (f_I_product_JJ v12 (f_I_difference_JJ v11 v14))]) (rest := []) ⟨hx, hb, hml, hown, hts⟩ (c_I_sum_JJ l _ v10 (f_I_product_JJ v12 (f_I_difference_JJ v11 v14))) pu_pre (gw_call (k := 2) hts tw_249 tw_192 tw_5 tw_193 (by decide +kernel) rfl rfl ⟨Nat.le_of_ble_eq_true rfl, Nat.le_of_ble_eq_true rfl⟩) rfl hl.1 rfl (Nat.le_of_ble_eq_true rfl) ⟨Nat.zero_le _, Nat.zero_le _⟩ d_P_meanOrSquares_IZ_63 ?_
  refine lv_topl (fun v15 e15 => ?_)
  refine lv_lstore (lv' := [(5, .long v15), (3, .long v14), (10, .long v12), (8, .long v11), (7, .int (2 : Int32)), (0, .ref (ad 1)), (1, .int x1), (2, .int x2)]) hx hb d_P_meanOrSquares_IZ_66 hl (by decide) rfl (fun ls hl => ?_)
  refine lv_iinc (v := (3 : Int32)) (lv' := [(7, .int (3 : Int32)), (5, .long v15), (3, .long v14), (10, .long v12), (8, .long v11), (0, .ref (ad 1)), (1, .int x1), (2, .int x2)]) hx hb d_P_meanOrSquares_IZ_68 hl (k := 4) rfl (by decide) (by decide) rfl (fun ls hl => ?_)
  refine lv_goto (tgt := 8) hx hb d_P_meanOrSquares_IZ_71 (by decide) ?_
  refine lv_iload hx hb d_P_meanOrSquares_IZ_8 (lv_at hl 0 rfl) ?_
  refine lv_bipush (v := (8 : Int32)) hx hb d_P_meanOrSquares_IZ_10 (by decide) ?_
  refine lv_icmp_ge (tgt := 74) hx hb d_P_meanOrSquares_IZ_12 (by decide) (fun c0 => absurd c0 (by decide)) (fun _ => ?_)
  refine lv_aload_n hx hb d_P_meanOrSquares_IZ_15 rfl (lv_at hl 5 rfl) ?_
  refine lv_iload hx hb d_P_meanOrSquares_IZ_16 (lv_at hl 0 rfl) ?_
  refine lv_iload_n hx hb d_P_meanOrSquares_IZ_18 rfl (lv_at hl 6 rfl) ?_
  refine hg_cl (As := [.int (3 : Int32), .int x1]) (rest := []) ⟨hx, hb, hml, hown, hts⟩ (c_P_bodyNumber_II l dC dI ad cJ cI S (3 : Int32) x1 (in_of (by decide) (by decide)) hk_x1 _) (gw_callV (k := 2) hts tw_393 tw_275 tw_276 tw_2 tw_277 (by decide +kernel) rfl rfl ⟨Nat.le_of_ble_eq_true rfl, Nat.le_of_ble_eq_true rfl⟩) hK G hA (hx_T _ _) 1 1 rfl rfl rfl hl.1 rfl (Nat.le_of_ble_eq_true rfl) ⟨Nat.zero_le _, Nat.zero_le _⟩ d_P_meanOrSquares_IZ_19 (fun H locs G => ?_)
  refine lv_topl (fun v16 e16 => ?_)
  refine lv_lstore (lv' := [(8, .long v16), (7, .int (3 : Int32)), (5, .long v15), (3, .long v14), (10, .long v12), (0, .ref (ad 1)), (1, .int x1), (2, .int x2)]) hx hb d_P_meanOrSquares_IZ_22 hl (by decide) rfl (fun ls hl => ?_)
  refine lv_lload hx hb d_P_meanOrSquares_IZ_24 (lv_at hl 0 rfl) ?_
  refine lv_lload_n hx hb d_P_meanOrSquares_IZ_26 rfl (lv_at hl 3 rfl) ?_
  refine pu_l (As := [.long v16, .long v14]) (rest := []) ⟨hx, hb, hml, hown, hts⟩ (c_I_difference_JJ l _ v16 v14) pu_pre (gw_call (k := 2) hts tw_188 tw_189 tw_5 tw_190 (by decide +kernel) rfl rfl ⟨Nat.le_of_ble_eq_true rfl, Nat.le_of_ble_eq_true rfl⟩) rfl hl.1 rfl (Nat.le_of_ble_eq_true rfl) ⟨Nat.zero_le _, Nat.zero_le _⟩ d_P_meanOrSquares_IZ_27 ?_
  refine lv_topl (fun v17 e17 => ?_)
  refine lv_lstore (lv' := [(10, .long v17), (8, .long v16), (7, .int (3 : Int32)), (5, .long v15), (3, .long v14), (0, .ref (ad 1)), (1, .int x1), (2, .int x2)]) hx hb d_P_meanOrSquares_IZ_30 hl (by decide) rfl (fun ls hl => ?_)
  refine lv_lload_n hx hb d_P_meanOrSquares_IZ_32 rfl (lv_at hl 4 rfl) ?_
  refine lv_lload hx hb d_P_meanOrSquares_IZ_33 (lv_at hl 0 rfl) ?_
  refine lv_iload hx hb d_P_meanOrSquares_IZ_35 (lv_at hl 2 rfl) ?_
  refine lv_iconst (v := 1) hx hb d_P_meanOrSquares_IZ_37 (by decide) ?_
  refine lv_iadd hx hb d_P_meanOrSquares_IZ_38 ?_
  refine lv_topi (fun v18 e18 => ?_)
  obtain rfl : v18 = (4 : Int32) := by rw [e18]; decide
  refine lv_i2l hx hb d_P_meanOrSquares_IZ_39 rfl ?_
  refine pu_l (As := [.long ((4 : Int32).toInt64)]) (rest := [.long v17, .long v14]) ⟨hx, hb, hml, hown, hts⟩ (c_I_ofWhole_J l _ ((4 : Int32).toInt64)) pu_pre (gw_call (k := 1) hts tw_394 tw_330 tw_5 tw_331 (by decide +kernel) rfl rfl ⟨Nat.le_of_ble_eq_true rfl, Nat.le_of_ble_eq_true rfl⟩) rfl hl.1 rfl (Nat.le_of_ble_eq_true rfl) ⟨Nat.zero_le _, Nat.zero_le _⟩ d_P_meanOrSquares_IZ_40 ?_
  refine pu_l (As := [.long v17, .long (f_I_ofWhole_J ((4 : Int32).toInt64))]) (rest := [.long v14]) ⟨hx, hb, hml, hown, hts⟩ (c_I_quotient_JJ l _ v17 (f_I_ofWhole_J ((4 : Int32).toInt64))) pu_pre (gw_call (k := 2) hts tw_248 tw_224 tw_5 tw_225 (by decide +kernel) rfl rfl ⟨Nat.le_of_ble_eq_true rfl, Nat.le_of_ble_eq_true rfl⟩) rfl hl.1 rfl (Nat.le_of_ble_eq_true rfl) ⟨Nat.zero_le _, Nat.zero_le _⟩ d_P_meanOrSquares_IZ_43 ?_
  refine pu_l (As := [.long v14, .long (f_I_quotient_JJ v17 (f_I_ofWhole_J ((4 : Int32).toInt64)))]) (rest := []) ⟨hx, hb, hml, hown, hts⟩ (c_I_sum_JJ l _ v14 (f_I_quotient_JJ v17 (f_I_ofWhole_J ((4 : Int32).toInt64)))) pu_pre (gw_call (k := 2) hts tw_249 tw_192 tw_5 tw_193 (by decide +kernel) rfl rfl ⟨Nat.le_of_ble_eq_true rfl, Nat.le_of_ble_eq_true rfl⟩) rfl hl.1 rfl (Nat.le_of_ble_eq_true rfl) ⟨Nat.zero_le _, Nat.zero_le _⟩ d_P_meanOrSquares_IZ_46 ?_
  refine lv_topl (fun v19 e19 => ?_)
  refine lv_lstore_n (lv' := [(3, .long v19), (10, .long v17), (8, .long v16), (7, .int (3 : Int32)), (5, .long v15), (0, .ref (ad 1)), (1, .int x1), (2, .int x2)]) hx hb d_P_meanOrSquares_IZ_49 rfl hl (by decide) rfl (fun ls hl => ?_)
  refine lv_lload hx hb d_P_meanOrSquares_IZ_50 (lv_at hl 4 rfl) ?_
  refine lv_lload hx hb d_P_meanOrSquares_IZ_52 (lv_at hl 1 rfl) ?_
  refine lv_lload hx hb d_P_meanOrSquares_IZ_54 (lv_at hl 2 rfl) ?_
  refine lv_lload_n hx hb d_P_meanOrSquares_IZ_56 rfl (lv_at hl 0 rfl) ?_
  refine pu_l (As := [.long v16, .long v19]) (rest := [.long v17, .long v15]) ⟨hx, hb, hml, hown, hts⟩ (c_I_difference_JJ l _ v16 v19) pu_pre (gw_call (k := 2) hts tw_188 tw_189 tw_5 tw_190 (by decide +kernel) rfl rfl ⟨Nat.le_of_ble_eq_true rfl, Nat.le_of_ble_eq_true rfl⟩) rfl hl.1 rfl (Nat.le_of_ble_eq_true rfl) ⟨Nat.zero_le _, Nat.zero_le _⟩ d_P_meanOrSquares_IZ_57 ?_
  refine pu_l (As := [.long v17, .long (f_I_difference_JJ v16 v19)]) (rest := [.long v15]) ⟨hx, hb, hml, hown, hts⟩ (c_I_product_JJ l _ v17 (f_I_difference_JJ v16 v19)) pu_pre (gw_call (k := 2) hts tw_174 tw_175 tw_5 tw_176 (by decide +kernel) rfl rfl ⟨Nat.le_of_ble_eq_true rfl, Nat.le_of_ble_eq_true rfl⟩) rfl hl.1 rfl (Nat.le_of_ble_eq_true rfl) ⟨Nat.zero_le _, Nat.zero_le _⟩ d_P_meanOrSquares_IZ_60 ?_
  refine pu_l (As := [.long v15, .long (f_I_product_JJ v17 (f_I_difference_JJ v16 v19))]) (rest := []) ⟨hx, hb, hml, hown, hts⟩ (c_I_sum_JJ l _ v15 (f_I_product_JJ v17 (f_I_difference_JJ v16 v19))) pu_pre (gw_call (k := 2) hts tw_249 tw_192 tw_5 tw_193 (by decide +kernel) rfl rfl ⟨Nat.le_of_ble_eq_true rfl, Nat.le_of_ble_eq_true rfl⟩) rfl hl.1 rfl (Nat.le_of_ble_eq_true rfl) ⟨Nat.zero_le _, Nat.zero_le _⟩ d_P_meanOrSquares_IZ_63 ?_
  refine lv_topl (fun v20 e20 => ?_)
  refine lv_lstore (lv' := [(5, .long v20), (3, .long v19), (10, .long v17), (8, .long v16), (7, .int (3 : Int32)), (0, .ref (ad 1)), (1, .int x1), (2, .int x2)]) hx hb d_P_meanOrSquares_IZ_66 hl (by decide) rfl (fun ls hl => ?_)
  refine lv_iinc (v := (4 : Int32)) (lv' := [(7, .int (4 : Int32)), (5, .long v20), (3, .long v19), (10, .long v17), (8, .long v16), (0, .ref (ad 1)), (1, .int x1), (2, .int x2)]) hx hb d_P_meanOrSquares_IZ_68 hl (k := 4) rfl (by decide) (by decide) rfl (fun ls hl => ?_)
  refine lv_goto (tgt := 8) hx hb d_P_meanOrSquares_IZ_71 (by decide) ?_
  refine lv_iload hx hb d_P_meanOrSquares_IZ_8 (lv_at hl 0 rfl) ?_
  refine lv_bipush (v := (8 : Int32)) hx hb d_P_meanOrSquares_IZ_10 (by decide) ?_
  refine lv_icmp_ge (tgt := 74) hx hb d_P_meanOrSquares_IZ_12 (by decide) (fun c0 => absurd c0 (by decide)) (fun _ => ?_)
  refine lv_aload_n hx hb d_P_meanOrSquares_IZ_15 rfl (lv_at hl 5 rfl) ?_
  refine lv_iload hx hb d_P_meanOrSquares_IZ_16 (lv_at hl 0 rfl) ?_
  refine lv_iload_n hx hb d_P_meanOrSquares_IZ_18 rfl (lv_at hl 6 rfl) ?_
  refine hg_cl (As := [.int (4 : Int32), .int x1]) (rest := []) ⟨hx, hb, hml, hown, hts⟩ (c_P_bodyNumber_II l dC dI ad cJ cI S (4 : Int32) x1 (in_of (by decide) (by decide)) hk_x1 _) (gw_callV (k := 2) hts tw_393 tw_275 tw_276 tw_2 tw_277 (by decide +kernel) rfl rfl ⟨Nat.le_of_ble_eq_true rfl, Nat.le_of_ble_eq_true rfl⟩) hK G hA (hx_T _ _) 1 1 rfl rfl rfl hl.1 rfl (Nat.le_of_ble_eq_true rfl) ⟨Nat.zero_le _, Nat.zero_le _⟩ d_P_meanOrSquares_IZ_19 (fun H locs G => ?_)
  refine lv_topl (fun v21 e21 => ?_)
  refine lv_lstore (lv' := [(8, .long v21), (7, .int (4 : Int32)), (5, .long v20), (3, .long v19), (10, .long v17), (0, .ref (ad 1)), (1, .int x1), (2, .int x2)]) hx hb d_P_meanOrSquares_IZ_22 hl (by decide) rfl (fun ls hl => ?_)
  refine lv_lload hx hb d_P_meanOrSquares_IZ_24 (lv_at hl 0 rfl) ?_
  refine lv_lload_n hx hb d_P_meanOrSquares_IZ_26 rfl (lv_at hl 3 rfl) ?_
  refine pu_l (As := [.long v21, .long v19]) (rest := []) ⟨hx, hb, hml, hown, hts⟩ (c_I_difference_JJ l _ v21 v19) pu_pre (gw_call (k := 2) hts tw_188 tw_189 tw_5 tw_190 (by decide +kernel) rfl rfl ⟨Nat.le_of_ble_eq_true rfl, Nat.le_of_ble_eq_true rfl⟩) rfl hl.1 rfl (Nat.le_of_ble_eq_true rfl) ⟨Nat.zero_le _, Nat.zero_le _⟩ d_P_meanOrSquares_IZ_27 ?_
  refine lv_topl (fun v22 e22 => ?_)
  refine lv_lstore (lv' := [(10, .long v22), (8, .long v21), (7, .int (4 : Int32)), (5, .long v20), (3, .long v19), (0, .ref (ad 1)), (1, .int x1), (2, .int x2)]) hx hb d_P_meanOrSquares_IZ_30 hl (by decide) rfl (fun ls hl => ?_)
  refine lv_lload_n hx hb d_P_meanOrSquares_IZ_32 rfl (lv_at hl 4 rfl) ?_
  refine lv_lload hx hb d_P_meanOrSquares_IZ_33 (lv_at hl 0 rfl) ?_
  refine lv_iload hx hb d_P_meanOrSquares_IZ_35 (lv_at hl 2 rfl) ?_
  refine lv_iconst (v := 1) hx hb d_P_meanOrSquares_IZ_37 (by decide) ?_
  refine lv_iadd hx hb d_P_meanOrSquares_IZ_38 ?_
  refine lv_topi (fun v23 e23 => ?_)
  obtain rfl : v23 = (5 : Int32) := by rw [e23]; decide
  refine lv_i2l hx hb d_P_meanOrSquares_IZ_39 rfl ?_
  refine pu_l (As := [.long ((5 : Int32).toInt64)]) (rest := [.long v22, .long v19]) ⟨hx, hb, hml, hown, hts⟩ (c_I_ofWhole_J l _ ((5 : Int32).toInt64)) pu_pre (gw_call (k := 1) hts tw_394 tw_330 tw_5 tw_331 (by decide +kernel) rfl rfl ⟨Nat.le_of_ble_eq_true rfl, Nat.le_of_ble_eq_true rfl⟩) rfl hl.1 rfl (Nat.le_of_ble_eq_true rfl) ⟨Nat.zero_le _, Nat.zero_le _⟩ d_P_meanOrSquares_IZ_40 ?_
  refine pu_l (As := [.long v22, .long (f_I_ofWhole_J ((5 : Int32).toInt64))]) (rest := [.long v19]) ⟨hx, hb, hml, hown, hts⟩ (c_I_quotient_JJ l _ v22 (f_I_ofWhole_J ((5 : Int32).toInt64))) pu_pre (gw_call (k := 2) hts tw_248 tw_224 tw_5 tw_225 (by decide +kernel) rfl rfl ⟨Nat.le_of_ble_eq_true rfl, Nat.le_of_ble_eq_true rfl⟩) rfl hl.1 rfl (Nat.le_of_ble_eq_true rfl) ⟨Nat.zero_le _, Nat.zero_le _⟩ d_P_meanOrSquares_IZ_43 ?_
  refine pu_l (As := [.long v19, .long (f_I_quotient_JJ v22 (f_I_ofWhole_J ((5 : Int32).toInt64)))]) (rest := []) ⟨hx, hb, hml, hown, hts⟩ (c_I_sum_JJ l _ v19 (f_I_quotient_JJ v22 (f_I_ofWhole_J ((5 : Int32).toInt64)))) pu_pre (gw_call (k := 2) hts tw_249 tw_192 tw_5 tw_193 (by decide +kernel) rfl rfl ⟨Nat.le_of_ble_eq_true rfl, Nat.le_of_ble_eq_true rfl⟩) rfl hl.1 rfl (Nat.le_of_ble_eq_true rfl) ⟨Nat.zero_le _, Nat.zero_le _⟩ d_P_meanOrSquares_IZ_46 ?_
  refine lv_topl (fun v24 e24 => ?_)
  refine lv_lstore_n (lv' := [(3, .long v24), (10, .long v22), (8, .long v21), (7, .int (4 : Int32)), (5, .long v20), (0, .ref (ad 1)), (1, .int x1), (2, .int x2)]) hx hb d_P_meanOrSquares_IZ_49 rfl hl (by decide) rfl (fun ls hl => ?_)
  refine lv_lload hx hb d_P_meanOrSquares_IZ_50 (lv_at hl 4 rfl) ?_
  refine lv_lload hx hb d_P_meanOrSquares_IZ_52 (lv_at hl 1 rfl) ?_
  refine lv_lload hx hb d_P_meanOrSquares_IZ_54 (lv_at hl 2 rfl) ?_
  refine lv_lload_n hx hb d_P_meanOrSquares_IZ_56 rfl (lv_at hl 0 rfl) ?_
  refine pu_l (As := [.long v21, .long v24]) (rest := [.long v22, .long v20]) ⟨hx, hb, hml, hown, hts⟩ (c_I_difference_JJ l _ v21 v24) pu_pre (gw_call (k := 2) hts tw_188 tw_189 tw_5 tw_190 (by decide +kernel) rfl rfl ⟨Nat.le_of_ble_eq_true rfl, Nat.le_of_ble_eq_true rfl⟩) rfl hl.1 rfl (Nat.le_of_ble_eq_true rfl) ⟨Nat.zero_le _, Nat.zero_le _⟩ d_P_meanOrSquares_IZ_57 ?_
  refine pu_l (As := [.long v22, .long (f_I_difference_JJ v21 v24)]) (rest := [.long v20]) ⟨hx, hb, hml, hown, hts⟩ (c_I_product_JJ l _ v22 (f_I_difference_JJ v21 v24)) pu_pre (gw_call (k := 2) hts tw_174 tw_175 tw_5 tw_176 (by decide +kernel) rfl rfl ⟨Nat.le_of_ble_eq_true rfl, Nat.le_of_ble_eq_true rfl⟩) rfl hl.1 rfl (Nat.le_of_ble_eq_true rfl) ⟨Nat.zero_le _, Nat.zero_le _⟩ d_P_meanOrSquares_IZ_60 ?_
  refine pu_l (As := [.long v20, .long (f_I_product_JJ v22 (f_I_difference_JJ v21 v24))]) (rest := []) ⟨hx, hb, hml, hown, hts⟩ (c_I_sum_JJ l _ v20 (f_I_product_JJ v22 (f_I_difference_JJ v21 v24))) pu_pre (gw_call (k := 2) hts tw_249 tw_192 tw_5 tw_193 (by decide +kernel) rfl rfl ⟨Nat.le_of_ble_eq_true rfl, Nat.le_of_ble_eq_true rfl⟩) rfl hl.1 rfl (Nat.le_of_ble_eq_true rfl) ⟨Nat.zero_le _, Nat.zero_le _⟩ d_P_meanOrSquares_IZ_63 ?_
  refine lv_topl (fun v25 e25 => ?_)
  refine lv_lstore (lv' := [(5, .long v25), (3, .long v24), (10, .long v22), (8, .long v21), (7, .int (4 : Int32)), (0, .ref (ad 1)), (1, .int x1), (2, .int x2)]) hx hb d_P_meanOrSquares_IZ_66 hl (by decide) rfl (fun ls hl => ?_)
  refine lv_iinc (v := (5 : Int32)) (lv' := [(7, .int (5 : Int32)), (5, .long v25), (3, .long v24), (10, .long v22), (8, .long v21), (0, .ref (ad 1)), (1, .int x1), (2, .int x2)]) hx hb d_P_meanOrSquares_IZ_68 hl (k := 4) rfl (by decide) (by decide) rfl (fun ls hl => ?_)
  refine lv_goto (tgt := 8) hx hb d_P_meanOrSquares_IZ_71 (by decide) ?_
  refine lv_iload hx hb d_P_meanOrSquares_IZ_8 (lv_at hl 0 rfl) ?_
  refine lv_bipush (v := (8 : Int32)) hx hb d_P_meanOrSquares_IZ_10 (by decide) ?_
  refine lv_icmp_ge (tgt := 74) hx hb d_P_meanOrSquares_IZ_12 (by decide) (fun c0 => absurd c0 (by decide)) (fun _ => ?_)
  refine lv_aload_n hx hb d_P_meanOrSquares_IZ_15 rfl (lv_at hl 5 rfl) ?_
  refine lv_iload hx hb d_P_meanOrSquares_IZ_16 (lv_at hl 0 rfl) ?_
  refine lv_iload_n hx hb d_P_meanOrSquares_IZ_18 rfl (lv_at hl 6 rfl) ?_
  refine hg_cl (As := [.int (5 : Int32), .int x1]) (rest := []) ⟨hx, hb, hml, hown, hts⟩ (c_P_bodyNumber_II l dC dI ad cJ cI S (5 : Int32) x1 (in_of (by decide) (by decide)) hk_x1 _) (gw_callV (k := 2) hts tw_393 tw_275 tw_276 tw_2 tw_277 (by decide +kernel) rfl rfl ⟨Nat.le_of_ble_eq_true rfl, Nat.le_of_ble_eq_true rfl⟩) hK G hA (hx_T _ _) 1 1 rfl rfl rfl hl.1 rfl (Nat.le_of_ble_eq_true rfl) ⟨Nat.zero_le _, Nat.zero_le _⟩ d_P_meanOrSquares_IZ_19 (fun H locs G => ?_)
  refine lv_topl (fun v26 e26 => ?_)
  refine lv_lstore (lv' := [(8, .long v26), (7, .int (5 : Int32)), (5, .long v25), (3, .long v24), (10, .long v22), (0, .ref (ad 1)), (1, .int x1), (2, .int x2)]) hx hb d_P_meanOrSquares_IZ_22 hl (by decide) rfl (fun ls hl => ?_)
  refine lv_lload hx hb d_P_meanOrSquares_IZ_24 (lv_at hl 0 rfl) ?_
  refine lv_lload_n hx hb d_P_meanOrSquares_IZ_26 rfl (lv_at hl 3 rfl) ?_
  refine pu_l (As := [.long v26, .long v24]) (rest := []) ⟨hx, hb, hml, hown, hts⟩ (c_I_difference_JJ l _ v26 v24) pu_pre (gw_call (k := 2) hts tw_188 tw_189 tw_5 tw_190 (by decide +kernel) rfl rfl ⟨Nat.le_of_ble_eq_true rfl, Nat.le_of_ble_eq_true rfl⟩) rfl hl.1 rfl (Nat.le_of_ble_eq_true rfl) ⟨Nat.zero_le _, Nat.zero_le _⟩ d_P_meanOrSquares_IZ_27 ?_
  refine lv_topl (fun v27 e27 => ?_)
  refine lv_lstore (lv' := [(10, .long v27), (8, .long v26), (7, .int (5 : Int32)), (5, .long v25), (3, .long v24), (0, .ref (ad 1)), (1, .int x1), (2, .int x2)]) hx hb d_P_meanOrSquares_IZ_30 hl (by decide) rfl (fun ls hl => ?_)
  refine lv_lload_n hx hb d_P_meanOrSquares_IZ_32 rfl (lv_at hl 4 rfl) ?_
  refine lv_lload hx hb d_P_meanOrSquares_IZ_33 (lv_at hl 0 rfl) ?_
  refine lv_iload hx hb d_P_meanOrSquares_IZ_35 (lv_at hl 2 rfl) ?_
  refine lv_iconst (v := 1) hx hb d_P_meanOrSquares_IZ_37 (by decide) ?_
  refine lv_iadd hx hb d_P_meanOrSquares_IZ_38 ?_
  refine lv_topi (fun v28 e28 => ?_)
  obtain rfl : v28 = (6 : Int32) := by rw [e28]; decide
  refine lv_i2l hx hb d_P_meanOrSquares_IZ_39 rfl ?_
  refine pu_l (As := [.long ((6 : Int32).toInt64)]) (rest := [.long v27, .long v24]) ⟨hx, hb, hml, hown, hts⟩ (c_I_ofWhole_J l _ ((6 : Int32).toInt64)) pu_pre (gw_call (k := 1) hts tw_394 tw_330 tw_5 tw_331 (by decide +kernel) rfl rfl ⟨Nat.le_of_ble_eq_true rfl, Nat.le_of_ble_eq_true rfl⟩) rfl hl.1 rfl (Nat.le_of_ble_eq_true rfl) ⟨Nat.zero_le _, Nat.zero_le _⟩ d_P_meanOrSquares_IZ_40 ?_
  refine pu_l (As := [.long v27, .long (f_I_ofWhole_J ((6 : Int32).toInt64))]) (rest := [.long v24]) ⟨hx, hb, hml, hown, hts⟩ (c_I_quotient_JJ l _ v27 (f_I_ofWhole_J ((6 : Int32).toInt64))) pu_pre (gw_call (k := 2) hts tw_248 tw_224 tw_5 tw_225 (by decide +kernel) rfl rfl ⟨Nat.le_of_ble_eq_true rfl, Nat.le_of_ble_eq_true rfl⟩) rfl hl.1 rfl (Nat.le_of_ble_eq_true rfl) ⟨Nat.zero_le _, Nat.zero_le _⟩ d_P_meanOrSquares_IZ_43 ?_
  refine pu_l (As := [.long v24, .long (f_I_quotient_JJ v27 (f_I_ofWhole_J ((6 : Int32).toInt64)))]) (rest := []) ⟨hx, hb, hml, hown, hts⟩ (c_I_sum_JJ l _ v24 (f_I_quotient_JJ v27 (f_I_ofWhole_J ((6 : Int32).toInt64)))) pu_pre (gw_call (k := 2) hts tw_249 tw_192 tw_5 tw_193 (by decide +kernel) rfl rfl ⟨Nat.le_of_ble_eq_true rfl, Nat.le_of_ble_eq_true rfl⟩) rfl hl.1 rfl (Nat.le_of_ble_eq_true rfl) ⟨Nat.zero_le _, Nat.zero_le _⟩ d_P_meanOrSquares_IZ_46 ?_
  refine lv_topl (fun v29 e29 => ?_)
  refine lv_lstore_n (lv' := [(3, .long v29), (10, .long v27), (8, .long v26), (7, .int (5 : Int32)), (5, .long v25), (0, .ref (ad 1)), (1, .int x1), (2, .int x2)]) hx hb d_P_meanOrSquares_IZ_49 rfl hl (by decide) rfl (fun ls hl => ?_)
  refine lv_lload hx hb d_P_meanOrSquares_IZ_50 (lv_at hl 4 rfl) ?_
  refine lv_lload hx hb d_P_meanOrSquares_IZ_52 (lv_at hl 1 rfl) ?_
  refine lv_lload hx hb d_P_meanOrSquares_IZ_54 (lv_at hl 2 rfl) ?_
  refine lv_lload_n hx hb d_P_meanOrSquares_IZ_56 rfl (lv_at hl 0 rfl) ?_
  refine pu_l (As := [.long v26, .long v29]) (rest := [.long v27, .long v25]) ⟨hx, hb, hml, hown, hts⟩ (c_I_difference_JJ l _ v26 v29) pu_pre (gw_call (k := 2) hts tw_188 tw_189 tw_5 tw_190 (by decide +kernel) rfl rfl ⟨Nat.le_of_ble_eq_true rfl, Nat.le_of_ble_eq_true rfl⟩) rfl hl.1 rfl (Nat.le_of_ble_eq_true rfl) ⟨Nat.zero_le _, Nat.zero_le _⟩ d_P_meanOrSquares_IZ_57 ?_
  refine pu_l (As := [.long v27, .long (f_I_difference_JJ v26 v29)]) (rest := [.long v25]) ⟨hx, hb, hml, hown, hts⟩ (c_I_product_JJ l _ v27 (f_I_difference_JJ v26 v29)) pu_pre (gw_call (k := 2) hts tw_174 tw_175 tw_5 tw_176 (by decide +kernel) rfl rfl ⟨Nat.le_of_ble_eq_true rfl, Nat.le_of_ble_eq_true rfl⟩) rfl hl.1 rfl (Nat.le_of_ble_eq_true rfl) ⟨Nat.zero_le _, Nat.zero_le _⟩ d_P_meanOrSquares_IZ_60 ?_
  refine pu_l (As := [.long v25, .long (f_I_product_JJ v27 (f_I_difference_JJ v26 v29))]) (rest := []) ⟨hx, hb, hml, hown, hts⟩ (c_I_sum_JJ l _ v25 (f_I_product_JJ v27 (f_I_difference_JJ v26 v29))) pu_pre (gw_call (k := 2) hts tw_249 tw_192 tw_5 tw_193 (by decide +kernel) rfl rfl ⟨Nat.le_of_ble_eq_true rfl, Nat.le_of_ble_eq_true rfl⟩) rfl hl.1 rfl (Nat.le_of_ble_eq_true rfl) ⟨Nat.zero_le _, Nat.zero_le _⟩ d_P_meanOrSquares_IZ_63 ?_
  refine lv_topl (fun v30 e30 => ?_)
  refine lv_lstore (lv' := [(5, .long v30), (3, .long v29), (10, .long v27), (8, .long v26), (7, .int (5 : Int32)), (0, .ref (ad 1)), (1, .int x1), (2, .int x2)]) hx hb d_P_meanOrSquares_IZ_66 hl (by decide) rfl (fun ls hl => ?_)
  refine lv_iinc (v := (6 : Int32)) (lv' := [(7, .int (6 : Int32)), (5, .long v30), (3, .long v29), (10, .long v27), (8, .long v26), (0, .ref (ad 1)), (1, .int x1), (2, .int x2)]) hx hb d_P_meanOrSquares_IZ_68 hl (k := 4) rfl (by decide) (by decide) rfl (fun ls hl => ?_)
  refine lv_goto (tgt := 8) hx hb d_P_meanOrSquares_IZ_71 (by decide) ?_
  refine lv_iload hx hb d_P_meanOrSquares_IZ_8 (lv_at hl 0 rfl) ?_
  refine lv_bipush (v := (8 : Int32)) hx hb d_P_meanOrSquares_IZ_10 (by decide) ?_
  refine lv_icmp_ge (tgt := 74) hx hb d_P_meanOrSquares_IZ_12 (by decide) (fun c0 => absurd c0 (by decide)) (fun _ => ?_)
  refine lv_aload_n hx hb d_P_meanOrSquares_IZ_15 rfl (lv_at hl 5 rfl) ?_
  refine lv_iload hx hb d_P_meanOrSquares_IZ_16 (lv_at hl 0 rfl) ?_
  refine lv_iload_n hx hb d_P_meanOrSquares_IZ_18 rfl (lv_at hl 6 rfl) ?_
  refine hg_cl (As := [.int (6 : Int32), .int x1]) (rest := []) ⟨hx, hb, hml, hown, hts⟩ (c_P_bodyNumber_II l dC dI ad cJ cI S (6 : Int32) x1 (in_of (by decide) (by decide)) hk_x1 _) (gw_callV (k := 2) hts tw_393 tw_275 tw_276 tw_2 tw_277 (by decide +kernel) rfl rfl ⟨Nat.le_of_ble_eq_true rfl, Nat.le_of_ble_eq_true rfl⟩) hK G hA (hx_T _ _) 1 1 rfl rfl rfl hl.1 rfl (Nat.le_of_ble_eq_true rfl) ⟨Nat.zero_le _, Nat.zero_le _⟩ d_P_meanOrSquares_IZ_19 (fun H locs G => ?_)
  refine lv_topl (fun v31 e31 => ?_)
  refine lv_lstore (lv' := [(8, .long v31), (7, .int (6 : Int32)), (5, .long v30), (3, .long v29), (10, .long v27), (0, .ref (ad 1)), (1, .int x1), (2, .int x2)]) hx hb d_P_meanOrSquares_IZ_22 hl (by decide) rfl (fun ls hl => ?_)
  refine lv_lload hx hb d_P_meanOrSquares_IZ_24 (lv_at hl 0 rfl) ?_
  refine lv_lload_n hx hb d_P_meanOrSquares_IZ_26 rfl (lv_at hl 3 rfl) ?_
  refine pu_l (As := [.long v31, .long v29]) (rest := []) ⟨hx, hb, hml, hown, hts⟩ (c_I_difference_JJ l _ v31 v29) pu_pre (gw_call (k := 2) hts tw_188 tw_189 tw_5 tw_190 (by decide +kernel) rfl rfl ⟨Nat.le_of_ble_eq_true rfl, Nat.le_of_ble_eq_true rfl⟩) rfl hl.1 rfl (Nat.le_of_ble_eq_true rfl) ⟨Nat.zero_le _, Nat.zero_le _⟩ d_P_meanOrSquares_IZ_27 ?_
  refine lv_topl (fun v32 e32 => ?_)
  refine lv_lstore (lv' := [(10, .long v32), (8, .long v31), (7, .int (6 : Int32)), (5, .long v30), (3, .long v29), (0, .ref (ad 1)), (1, .int x1), (2, .int x2)]) hx hb d_P_meanOrSquares_IZ_30 hl (by decide) rfl (fun ls hl => ?_)
  refine lv_lload_n hx hb d_P_meanOrSquares_IZ_32 rfl (lv_at hl 4 rfl) ?_
  refine lv_lload hx hb d_P_meanOrSquares_IZ_33 (lv_at hl 0 rfl) ?_
  refine lv_iload hx hb d_P_meanOrSquares_IZ_35 (lv_at hl 2 rfl) ?_
  refine lv_iconst (v := 1) hx hb d_P_meanOrSquares_IZ_37 (by decide) ?_
  refine lv_iadd hx hb d_P_meanOrSquares_IZ_38 ?_
  refine lv_topi (fun v33 e33 => ?_)
  obtain rfl : v33 = (7 : Int32) := by rw [e33]; decide
  refine lv_i2l hx hb d_P_meanOrSquares_IZ_39 rfl ?_
  refine pu_l (As := [.long ((7 : Int32).toInt64)]) (rest := [.long v32, .long v29]) ⟨hx, hb, hml, hown, hts⟩ (c_I_ofWhole_J l _ ((7 : Int32).toInt64)) pu_pre (gw_call (k := 1) hts tw_394 tw_330 tw_5 tw_331 (by decide +kernel) rfl rfl ⟨Nat.le_of_ble_eq_true rfl, Nat.le_of_ble_eq_true rfl⟩) rfl hl.1 rfl (Nat.le_of_ble_eq_true rfl) ⟨Nat.zero_le _, Nat.zero_le _⟩ d_P_meanOrSquares_IZ_40 ?_
  refine pu_l (As := [.long v32, .long (f_I_ofWhole_J ((7 : Int32).toInt64))]) (rest := [.long v29]) ⟨hx, hb, hml, hown, hts⟩ (c_I_quotient_JJ l _ v32 (f_I_ofWhole_J ((7 : Int32).toInt64))) pu_pre (gw_call (k := 2) hts tw_248 tw_224 tw_5 tw_225 (by decide +kernel) rfl rfl ⟨Nat.le_of_ble_eq_true rfl, Nat.le_of_ble_eq_true rfl⟩) rfl hl.1 rfl (Nat.le_of_ble_eq_true rfl) ⟨Nat.zero_le _, Nat.zero_le _⟩ d_P_meanOrSquares_IZ_43 ?_
  refine pu_l (As := [.long v29, .long (f_I_quotient_JJ v32 (f_I_ofWhole_J ((7 : Int32).toInt64)))]) (rest := []) ⟨hx, hb, hml, hown, hts⟩ (c_I_sum_JJ l _ v29 (f_I_quotient_JJ v32 (f_I_ofWhole_J ((7 : Int32).toInt64)))) pu_pre (gw_call (k := 2) hts tw_249 tw_192 tw_5 tw_193 (by decide +kernel) rfl rfl ⟨Nat.le_of_ble_eq_true rfl, Nat.le_of_ble_eq_true rfl⟩) rfl hl.1 rfl (Nat.le_of_ble_eq_true rfl) ⟨Nat.zero_le _, Nat.zero_le _⟩ d_P_meanOrSquares_IZ_46 ?_
  refine lv_topl (fun v34 e34 => ?_)
  refine lv_lstore_n (lv' := [(3, .long v34), (10, .long v32), (8, .long v31), (7, .int (6 : Int32)), (5, .long v30), (0, .ref (ad 1)), (1, .int x1), (2, .int x2)]) hx hb d_P_meanOrSquares_IZ_49 rfl hl (by decide) rfl (fun ls hl => ?_)
  refine lv_lload hx hb d_P_meanOrSquares_IZ_50 (lv_at hl 4 rfl) ?_
  refine lv_lload hx hb d_P_meanOrSquares_IZ_52 (lv_at hl 1 rfl) ?_
  refine lv_lload hx hb d_P_meanOrSquares_IZ_54 (lv_at hl 2 rfl) ?_
  refine lv_lload_n hx hb d_P_meanOrSquares_IZ_56 rfl (lv_at hl 0 rfl) ?_
  refine pu_l (As := [.long v31, .long v34]) (rest := [.long v32, .long v30]) ⟨hx, hb, hml, hown, hts⟩ (c_I_difference_JJ l _ v31 v34) pu_pre (gw_call (k := 2) hts tw_188 tw_189 tw_5 tw_190 (by decide +kernel) rfl rfl ⟨Nat.le_of_ble_eq_true rfl, Nat.le_of_ble_eq_true rfl⟩) rfl hl.1 rfl (Nat.le_of_ble_eq_true rfl) ⟨Nat.zero_le _, Nat.zero_le _⟩ d_P_meanOrSquares_IZ_57 ?_
  refine pu_l (As := [.long v32, .long (f_I_difference_JJ v31 v34)]) (rest := [.long v30]) ⟨hx, hb, hml, hown, hts⟩ (c_I_product_JJ l _ v32 (f_I_difference_JJ v31 v34)) pu_pre (gw_call (k := 2) hts tw_174 tw_175 tw_5 tw_176 (by decide +kernel) rfl rfl ⟨Nat.le_of_ble_eq_true rfl, Nat.le_of_ble_eq_true rfl⟩) rfl hl.1 rfl (Nat.le_of_ble_eq_true rfl) ⟨Nat.zero_le _, Nat.zero_le _⟩ d_P_meanOrSquares_IZ_60 ?_
  refine pu_l (As := [.long v30, .long (f_I_product_JJ v32 (f_I_difference_JJ v31 v34))]) (rest := []) ⟨hx, hb, hml, hown, hts⟩ (c_I_sum_JJ l _ v30 (f_I_product_JJ v32 (f_I_difference_JJ v31 v34))) pu_pre (gw_call (k := 2) hts tw_249 tw_192 tw_5 tw_193 (by decide +kernel) rfl rfl ⟨Nat.le_of_ble_eq_true rfl, Nat.le_of_ble_eq_true rfl⟩) rfl hl.1 rfl (Nat.le_of_ble_eq_true rfl) ⟨Nat.zero_le _, Nat.zero_le _⟩ d_P_meanOrSquares_IZ_63 ?_
  refine lv_topl (fun v35 e35 => ?_)
  refine lv_lstore (lv' := [(5, .long v35), (3, .long v34), (10, .long v32), (8, .long v31), (7, .int (6 : Int32)), (0, .ref (ad 1)), (1, .int x1), (2, .int x2)]) hx hb d_P_meanOrSquares_IZ_66 hl (by decide) rfl (fun ls hl => ?_)
  refine lv_iinc (v := (7 : Int32)) (lv' := [(7, .int (7 : Int32)), (5, .long v35), (3, .long v34), (10, .long v32), (8, .long v31), (0, .ref (ad 1)), (1, .int x1), (2, .int x2)]) hx hb d_P_meanOrSquares_IZ_68 hl (k := 4) rfl (by decide) (by decide) rfl (fun ls hl => ?_)
  refine lv_goto (tgt := 8) hx hb d_P_meanOrSquares_IZ_71 (by decide) ?_
  refine lv_iload hx hb d_P_meanOrSquares_IZ_8 (lv_at hl 0 rfl) ?_
  refine lv_bipush (v := (8 : Int32)) hx hb d_P_meanOrSquares_IZ_10 (by decide) ?_
  refine lv_icmp_ge (tgt := 74) hx hb d_P_meanOrSquares_IZ_12 (by decide) (fun c0 => absurd c0 (by decide)) (fun _ => ?_)
  refine lv_aload_n hx hb d_P_meanOrSquares_IZ_15 rfl (lv_at hl 5 rfl) ?_
  refine lv_iload hx hb d_P_meanOrSquares_IZ_16 (lv_at hl 0 rfl) ?_
  refine lv_iload_n hx hb d_P_meanOrSquares_IZ_18 rfl (lv_at hl 6 rfl) ?_
  refine hg_cl (As := [.int (7 : Int32), .int x1]) (rest := []) ⟨hx, hb, hml, hown, hts⟩ (c_P_bodyNumber_II l dC dI ad cJ cI S (7 : Int32) x1 (in_of (by decide) (by decide)) hk_x1 _) (gw_callV (k := 2) hts tw_393 tw_275 tw_276 tw_2 tw_277 (by decide +kernel) rfl rfl ⟨Nat.le_of_ble_eq_true rfl, Nat.le_of_ble_eq_true rfl⟩) hK G hA (hx_T _ _) 1 1 rfl rfl rfl hl.1 rfl (Nat.le_of_ble_eq_true rfl) ⟨Nat.zero_le _, Nat.zero_le _⟩ d_P_meanOrSquares_IZ_19 (fun H locs G => ?_)
  refine lv_topl (fun v36 e36 => ?_)
  refine lv_lstore (lv' := [(8, .long v36), (7, .int (7 : Int32)), (5, .long v35), (3, .long v34), (10, .long v32), (0, .ref (ad 1)), (1, .int x1), (2, .int x2)]) hx hb d_P_meanOrSquares_IZ_22 hl (by decide) rfl (fun ls hl => ?_)
  refine lv_lload hx hb d_P_meanOrSquares_IZ_24 (lv_at hl 0 rfl) ?_
  refine lv_lload_n hx hb d_P_meanOrSquares_IZ_26 rfl (lv_at hl 3 rfl) ?_
  refine pu_l (As := [.long v36, .long v34]) (rest := []) ⟨hx, hb, hml, hown, hts⟩ (c_I_difference_JJ l _ v36 v34) pu_pre (gw_call (k := 2) hts tw_188 tw_189 tw_5 tw_190 (by decide +kernel) rfl rfl ⟨Nat.le_of_ble_eq_true rfl, Nat.le_of_ble_eq_true rfl⟩) rfl hl.1 rfl (Nat.le_of_ble_eq_true rfl) ⟨Nat.zero_le _, Nat.zero_le _⟩ d_P_meanOrSquares_IZ_27 ?_
  refine lv_topl (fun v37 e37 => ?_)
  refine lv_lstore (lv' := [(10, .long v37), (8, .long v36), (7, .int (7 : Int32)), (5, .long v35), (3, .long v34), (0, .ref (ad 1)), (1, .int x1), (2, .int x2)]) hx hb d_P_meanOrSquares_IZ_30 hl (by decide) rfl (fun ls hl => ?_)
  refine lv_lload_n hx hb d_P_meanOrSquares_IZ_32 rfl (lv_at hl 4 rfl) ?_
  refine lv_lload hx hb d_P_meanOrSquares_IZ_33 (lv_at hl 0 rfl) ?_
  refine lv_iload hx hb d_P_meanOrSquares_IZ_35 (lv_at hl 2 rfl) ?_
  refine lv_iconst (v := 1) hx hb d_P_meanOrSquares_IZ_37 (by decide) ?_
  refine lv_iadd hx hb d_P_meanOrSquares_IZ_38 ?_
  refine lv_topi (fun v38 e38 => ?_)
  obtain rfl : v38 = (8 : Int32) := by rw [e38]; decide
  refine lv_i2l hx hb d_P_meanOrSquares_IZ_39 rfl ?_
  refine pu_l (As := [.long ((8 : Int32).toInt64)]) (rest := [.long v37, .long v34]) ⟨hx, hb, hml, hown, hts⟩ (c_I_ofWhole_J l _ ((8 : Int32).toInt64)) pu_pre (gw_call (k := 1) hts tw_394 tw_330 tw_5 tw_331 (by decide +kernel) rfl rfl ⟨Nat.le_of_ble_eq_true rfl, Nat.le_of_ble_eq_true rfl⟩) rfl hl.1 rfl (Nat.le_of_ble_eq_true rfl) ⟨Nat.zero_le _, Nat.zero_le _⟩ d_P_meanOrSquares_IZ_40 ?_
  refine pu_l (As := [.long v37, .long (f_I_ofWhole_J ((8 : Int32).toInt64))]) (rest := [.long v34]) ⟨hx, hb, hml, hown, hts⟩ (c_I_quotient_JJ l _ v37 (f_I_ofWhole_J ((8 : Int32).toInt64))) pu_pre (gw_call (k := 2) hts tw_248 tw_224 tw_5 tw_225 (by decide +kernel) rfl rfl ⟨Nat.le_of_ble_eq_true rfl, Nat.le_of_ble_eq_true rfl⟩) rfl hl.1 rfl (Nat.le_of_ble_eq_true rfl) ⟨Nat.zero_le _, Nat.zero_le _⟩ d_P_meanOrSquares_IZ_43 ?_
  refine pu_l (As := [.long v34, .long (f_I_quotient_JJ v37 (f_I_ofWhole_J ((8 : Int32).toInt64)))]) (rest := []) ⟨hx, hb, hml, hown, hts⟩ (c_I_sum_JJ l _ v34 (f_I_quotient_JJ v37 (f_I_ofWhole_J ((8 : Int32).toInt64)))) pu_pre (gw_call (k := 2) hts tw_249 tw_192 tw_5 tw_193 (by decide +kernel) rfl rfl ⟨Nat.le_of_ble_eq_true rfl, Nat.le_of_ble_eq_true rfl⟩) rfl hl.1 rfl (Nat.le_of_ble_eq_true rfl) ⟨Nat.zero_le _, Nat.zero_le _⟩ d_P_meanOrSquares_IZ_46 ?_
  refine lv_topl (fun v39 e39 => ?_)
  refine lv_lstore_n (lv' := [(3, .long v39), (10, .long v37), (8, .long v36), (7, .int (7 : Int32)), (5, .long v35), (0, .ref (ad 1)), (1, .int x1), (2, .int x2)]) hx hb d_P_meanOrSquares_IZ_49 rfl hl (by decide) rfl (fun ls hl => ?_)
  refine lv_lload hx hb d_P_meanOrSquares_IZ_50 (lv_at hl 4 rfl) ?_
  refine lv_lload hx hb d_P_meanOrSquares_IZ_52 (lv_at hl 1 rfl) ?_
  refine lv_lload hx hb d_P_meanOrSquares_IZ_54 (lv_at hl 2 rfl) ?_
  refine lv_lload_n hx hb d_P_meanOrSquares_IZ_56 rfl (lv_at hl 0 rfl) ?_
  refine pu_l (As := [.long v36, .long v39]) (rest := [.long v37, .long v35]) ⟨hx, hb, hml, hown, hts⟩ (c_I_difference_JJ l _ v36 v39) pu_pre (gw_call (k := 2) hts tw_188 tw_189 tw_5 tw_190 (by decide +kernel) rfl rfl ⟨Nat.le_of_ble_eq_true rfl, Nat.le_of_ble_eq_true rfl⟩) rfl hl.1 rfl (Nat.le_of_ble_eq_true rfl) ⟨Nat.zero_le _, Nat.zero_le _⟩ d_P_meanOrSquares_IZ_57 ?_
  refine pu_l (As := [.long v37, .long (f_I_difference_JJ v36 v39)]) (rest := [.long v35]) ⟨hx, hb, hml, hown, hts⟩ (c_I_product_JJ l _ v37 (f_I_difference_JJ v36 v39)) pu_pre (gw_call (k := 2) hts tw_174 tw_175 tw_5 tw_176 (by decide +kernel) rfl rfl ⟨Nat.le_of_ble_eq_true rfl, Nat.le_of_ble_eq_true rfl⟩) rfl hl.1 rfl (Nat.le_of_ble_eq_true rfl) ⟨Nat.zero_le _, Nat.zero_le _⟩ d_P_meanOrSquares_IZ_60 ?_
  refine pu_l (As := [.long v35, .long (f_I_product_JJ v37 (f_I_difference_JJ v36 v39))]) (rest := []) ⟨hx, hb, hml, hown, hts⟩ (c_I_sum_JJ l _ v35 (f_I_product_JJ v37 (f_I_difference_JJ v36 v39))) pu_pre (gw_call (k := 2) hts tw_249 tw_192 tw_5 tw_193 (by decide +kernel) rfl rfl ⟨Nat.le_of_ble_eq_true rfl, Nat.le_of_ble_eq_true rfl⟩) rfl hl.1 rfl (Nat.le_of_ble_eq_true rfl) ⟨Nat.zero_le _, Nat.zero_le _⟩ d_P_meanOrSquares_IZ_63 ?_
  refine lv_topl (fun v40 e40 => ?_)
  refine lv_lstore (lv' := [(5, .long v40), (3, .long v39), (10, .long v37), (8, .long v36), (7, .int (7 : Int32)), (0, .ref (ad 1)), (1, .int x1), (2, .int x2)]) hx hb d_P_meanOrSquares_IZ_66 hl (by decide) rfl (fun ls hl => ?_)
  refine lv_iinc (v := (8 : Int32)) (lv' := [(7, .int (8 : Int32)), (5, .long v40), (3, .long v39), (10, .long v37), (8, .long v36), (0, .ref (ad 1)), (1, .int x1), (2, .int x2)]) hx hb d_P_meanOrSquares_IZ_68 hl (k := 4) rfl (by decide) (by decide) rfl (fun ls hl => ?_)
  refine lv_goto (tgt := 8) hx hb d_P_meanOrSquares_IZ_71 (by decide) ?_
  refine lv_iload hx hb d_P_meanOrSquares_IZ_8 (lv_at hl 0 rfl) ?_
  refine lv_bipush (v := (8 : Int32)) hx hb d_P_meanOrSquares_IZ_10 (by decide) ?_
  refine lv_icmp_ge (tgt := 74) hx hb d_P_meanOrSquares_IZ_12 (by decide) (fun _ => ?_) (fun c0 => absurd c0 (by decide))
  refine lv_iload_n hx hb d_P_meanOrSquares_IZ_74 rfl (lv_at hl 7 rfl) ?_
  refine lv_if_eq (tgt := 83) hx hb d_P_meanOrSquares_IZ_75 (by decide) (fun c41 => ?_) (fun c41 => ?_)
  · refine lv_lload_n hx hb d_P_meanOrSquares_IZ_83 rfl (lv_at hl 2 rfl) ?_
    exact hg_lret hx hb hr hlocks hK hAe G (by have qe1 := e1.symm; have qe2 := e2.symm; have qe4 := e4.symm; have qe5 := e5.symm; have qe6 := e6.symm; have qe7 := e7.symm; have qe9 := e9.symm; have qe10 := e10.symm; have qe11 := e11.symm; have qe12 := e12.symm; have qe14 := e14.symm; have qe15 := e15.symm; have qe16 := e16.symm; have qe17 := e17.symm; have qe19 := e19.symm; have qe20 := e20.symm; have qe21 := e21.symm; have qe22 := e22.symm; have qe24 := e24.symm; have qe25 := e25.symm; have qe26 := e26.symm; have qe27 := e27.symm; have qe29 := e29.symm; have qe30 := e30.symm; have qe31 := e31.symm; have qe32 := e32.symm; have qe34 := e34.symm; have qe35 := e35.symm; have qe36 := e36.symm; have qe37 := e37.symm; have qe39 := e39.symm; have qe40 := e40.symm; subst qe1 qe2 qe4 qe5 qe6 qe7 qe9 qe10 qe11 qe12 qe14 qe15 qe16 qe17 qe19 qe20 qe21 qe22 qe24 qe25 qe26 qe27 qe29 qe30 qe31 qe32 qe34 qe35 qe36 qe37 qe39 qe40; have e9 : f_P_meanOrSquares_IZ S x1 x2 = _ := (if_pos c41); exact ⟨Eq.symm e9, rfl⟩) d_P_meanOrSquares_IZ_84
  · refine lv_lload hx hb d_P_meanOrSquares_IZ_78 (lv_at hl 1 rfl) ?_
    refine lv_goto (tgt := 84) hx hb d_P_meanOrSquares_IZ_80 (by decide) ?_
    exact hg_lret hx hb hr hlocks hK hAe G (by have qe1 := e1.symm; have qe2 := e2.symm; have qe4 := e4.symm; have qe5 := e5.symm; have qe6 := e6.symm; have qe7 := e7.symm; have qe9 := e9.symm; have qe10 := e10.symm; have qe11 := e11.symm; have qe12 := e12.symm; have qe14 := e14.symm; have qe15 := e15.symm; have qe16 := e16.symm; have qe17 := e17.symm; have qe19 := e19.symm; have qe20 := e20.symm; have qe21 := e21.symm; have qe22 := e22.symm; have qe24 := e24.symm; have qe25 := e25.symm; have qe26 := e26.symm; have qe27 := e27.symm; have qe29 := e29.symm; have qe30 := e30.symm; have qe31 := e31.symm; have qe32 := e32.symm; have qe34 := e34.symm; have qe35 := e35.symm; have qe36 := e36.symm; have qe37 := e37.symm; have qe39 := e39.symm; have qe40 := e40.symm; subst qe1 qe2 qe4 qe5 qe6 qe7 qe9 qe10 qe11 qe12 qe14 qe15 qe16 qe17 qe19 qe20 qe21 qe22 qe24 qe25 qe26 qe27 qe29 qe30 qe31 qe32 qe34 qe35 qe36 qe37 qe39 qe40; have e9 : f_P_meanOrSquares_IZ S x1 x2 = _ := (if_neg c41); exact ⟨Eq.symm e9, rfl⟩) d_P_meanOrSquares_IZ_84
-- ===== MotionLab.mean(II)J 
abbrev y_L_mean_II : MethodName := ⟨"MotionLab", "mean", "(II)J"⟩
abbrev b_L_mean_II : ByteArray := prog_1_method_15_code
theorem d_L_mean_II_0 : decode b_L_mean_II 0 = .ok (.iload_n 1, 1) := by decide +kernel
theorem d_L_mean_II_1 : decode b_L_mean_II 1 = .ok (.invokestatic 24, 3) := by decide +kernel
theorem d_L_mean_II_4 : decode b_L_mean_II 4 = .ok (.ifCond .eq 12, 3) := by decide +kernel
theorem d_L_mean_II_7 : decode b_L_mean_II 7 = .ok (.iload_n 2, 1) := by decide +kernel
theorem d_L_mean_II_8 : decode b_L_mean_II 8 = .ok (.ifCond .lt 8, 3) := by decide +kernel
theorem d_L_mean_II_11 : decode b_L_mean_II 11 = .ok (.iload_n 2, 1) := by decide +kernel
theorem d_L_mean_II_12 : decode b_L_mean_II 12 = .ok (.iconst 1, 1) := by decide +kernel
theorem d_L_mean_II_13 : decode b_L_mean_II 13 = .ok (.if_icmp .le 5, 3) := by decide +kernel
theorem d_L_mean_II_16 : decode b_L_mean_II 16 = .ok (.lconst 1, 1) := by decide +kernel
theorem d_L_mean_II_17 : decode b_L_mean_II 17 = .ok (.lreturn, 1) := by decide +kernel
theorem d_L_mean_II_18 : decode b_L_mean_II 18 = .ok (.aload_n 0, 1) := by decide +kernel
theorem d_L_mean_II_19 : decode b_L_mean_II 19 = .ok (.getfield 10, 3) := by decide +kernel
theorem d_L_mean_II_22 : decode b_L_mean_II 22 = .ok (.iload_n 1, 1) := by decide +kernel
theorem d_L_mean_II_23 : decode b_L_mean_II 23 = .ok (.iload_n 2, 1) := by decide +kernel
theorem d_L_mean_II_24 : decode b_L_mean_II 24 = .ok (.iconst 1, 1) := by decide +kernel
theorem d_L_mean_II_25 : decode b_L_mean_II 25 = .ok (.if_icmp .ne 7, 3) := by decide +kernel
theorem d_L_mean_II_28 : decode b_L_mean_II 28 = .ok (.iconst 1, 1) := by decide +kernel
theorem d_L_mean_II_29 : decode b_L_mean_II 29 = .ok (.goto 4, 3) := by decide +kernel
theorem d_L_mean_II_32 : decode b_L_mean_II 32 = .ok (.iconst 0, 1) := by decide +kernel
theorem d_L_mean_II_33 : decode b_L_mean_II 33 = .ok (.invokevirtual 114, 3) := by decide +kernel
theorem d_L_mean_II_36 : decode b_L_mean_II 36 = .ok (.lreturn, 1) := by decide +kernel
def f_L_mean_II (S : CS) (x1 : Int32) (x2 : Int32) : Int64 :=
  if (f_P_isBodyNumber_I x1) = 0 then
    (1 : Int64)
  else
    if x2 < 0 then
      (1 : Int64)
    else
      if x2 ≤ (1 : Int32) then
        if x2 = (1 : Int32) then
          f_P_meanOrSquares_IZ S x1 (1 : Int32)
        else
          f_P_meanOrSquares_IZ S x1 (0 : Int32)
      else
        (1 : Int64)
set_option maxHeartbeats 4000000 in
set_option maxRecDepth 100000 in
theorem c_L_mean_II (l : Launch) (dC : Nat → ClassId) (dI : Nat → Nat → Nat) (ad : Nat → Nat) (cJ cI : ClassId) (S : CS) (x1 : Int32) (x2 : Int32) (sz : Nat) : hMl l y_L_mean_II (gw y_L_mean_II b_L_mean_II 3 (some .long)) { frames := 6, cells := 0, slots := 0, locals := 158 } [.ref (ad 0), .int x1, .int x2] (dC, dI) classes (tysJI cJ cI) (fun _ => True) (cW ad cJ cI S) sz (f_L_mean_II S x1 x2) (cW ad cJ cI S) := by
  refine Met.ofW (cc := b_L_mean_II) (maxL := 3) (ret := (some .long)) (by decide) rfl ?_
  intro p e s m args below meth c s₁ B hml hv
  obtain ⟨rfl, hsz, hP, hK, hD0, hRT⟩ := hv
  have hx := B.exec
  have hb := B.bytes
  have hr := B.returns
  have hts := atoms_spec (ws := (gw y_L_mean_II b_L_mean_II 3 (some .long))) B.pre
  have hown : s.vm.findClass "MotionLab" = some m.cls := findClass_of_methodNamed B.named
  have hlocks := B.notSynchronized
  subst hsz
  have hD := hD0.self (sz := s.heap.size)
  generalize hAe : va_A (cW ad cJ cI S) s.heap.size = A at hD
  have hA : ∀ q : Nat, s.heap.size ≤ q → A q := fun q h => by rw [← hAe]; exact Or.inr h
  have G : hG (dC, dI) classes A s.heap (cW ad cJ cI S) s.heap [] := ⟨hP, hD, va_S.rf⟩
  have hl := lv_entry ([.ref (ad 0), .int x1, .int x2]) (n := 3) (Nat.le_of_ble_eq_true rfl)
  rw [lg_entry_eq]
  generalize (lg_sl ([.ref (ad 0), .int x1, .int x2]) ++ List.replicate (3 - (lg_sl ([.ref (ad 0), .int x1, .int x2])).length) Slot.unset).toArray = ls at hl ⊢
  have hl : lv_has ls 3 [(0, .ref (ad 0)), (1, .int x1), (2, .int x2)] := hl
  refine lv_iload_n hx hb d_L_mean_II_0 rfl (lv_at hl 1 rfl) ?_
  refine pu_i (As := [.int x1]) (rest := []) ⟨hx, hb, hml, hown, hts⟩ (c_P_isBodyNumber_I l _ x1) pu_pre (gw_call (k := 1) hts tw_71 tw_72 tw_2 tw_73 (by decide +kernel) rfl rfl ⟨Nat.le_of_ble_eq_true rfl, Nat.le_of_ble_eq_true rfl⟩) rfl hl.1 rfl (Nat.le_of_ble_eq_true rfl) ⟨Nat.zero_le _, Nat.zero_le _⟩ d_L_mean_II_1 ?_
  refine lv_if_eq (tgt := 16) hx hb d_L_mean_II_4 (by decide) (fun c1 => ?_) (fun c1 => ?_)
  · refine lv_lconst (v := (1 : Int64)) hx hb d_L_mean_II_16 (by decide) ?_
    exact hg_lret hx hb hr hlocks hK hAe G (by have e9 : f_L_mean_II S x1 x2 = _ := (if_pos c1); exact ⟨Eq.symm e9, rfl⟩) d_L_mean_II_17
  · refine lv_iload_n hx hb d_L_mean_II_7 rfl (lv_at hl 2 rfl) ?_
    refine lv_if_lt (tgt := 16) hx hb d_L_mean_II_8 (by decide) (fun c2 => ?_) (fun c2 => ?_)
    · refine lv_lconst (v := (1 : Int64)) hx hb d_L_mean_II_16 (by decide) ?_
      exact hg_lret hx hb hr hlocks hK hAe G (by have e9 : f_L_mean_II S x1 x2 = _ := (Eq.trans (if_neg c1) (if_pos c2)); exact ⟨Eq.symm e9, rfl⟩) d_L_mean_II_17
    · refine lv_iload_n hx hb d_L_mean_II_11 rfl (lv_at hl 2 rfl) ?_
      refine lv_iconst (v := 1) hx hb d_L_mean_II_12 (by decide) ?_
      refine lv_icmp_le (tgt := 18) hx hb d_L_mean_II_13 (by decide) (fun c3 => ?_) (fun c3 => ?_)
      · refine lv_aload_n hx hb d_L_mean_II_18 rfl (lv_at hl 0 rfl) ?_
        refine va_get (D := (dC, dI)) (ci := 0) (v := .ref (ad 1)) (C := R_L) (T := F_L) (N := 2) hx hb hts (fun w h => gm (i_L w h)) hown hK G.1 0 rfl rfl 0 (by decide) (hts _ (gm tw_57)) (fun _ h9 => h9) rfl d_L_mean_II_19 ?_
        refine lv_iload_n hx hb d_L_mean_II_22 rfl (lv_at hl 1 rfl) ?_
        refine lv_iload_n hx hb d_L_mean_II_23 rfl (lv_at hl 2 rfl) ?_
        refine lv_iconst (v := 1) hx hb d_L_mean_II_24 (by decide) ?_
        refine lv_icmp_ne (tgt := 32) hx hb d_L_mean_II_25 (by decide) (fun c4 => ?_) (fun c4 => ?_)
        · refine lv_iconst (v := 0) hx hb d_L_mean_II_32 (by decide) ?_
          refine hg_cl (As := [.int x1, .int (0 : Int32)]) (rest := []) ⟨hx, hb, hml, hown, hts⟩ (c_P_meanOrSquares_IZ l dC dI ad cJ cI S x1 (0 : Int32) (in_isBodyNumber c1) _) (gw_callV (k := 2) hts tw_389 tw_390 tw_391 tw_2 tw_392 (by decide +kernel) rfl rfl ⟨Nat.le_of_ble_eq_true rfl, Nat.le_of_ble_eq_true rfl⟩) hK G hA (hx_T _ _) 1 1 rfl rfl rfl hl.1 rfl (Nat.le_of_ble_eq_true rfl) ⟨Nat.zero_le _, Nat.zero_le _⟩ d_L_mean_II_33 (fun H locs G => ?_)
          exact hg_lret hx hb hr hlocks hK hAe G (by have e9 : f_L_mean_II S x1 x2 = _ := (Eq.trans (if_neg c1) (Eq.trans (if_neg c2) (Eq.trans (if_pos c3) (if_neg c4)))); exact ⟨Eq.symm e9, rfl⟩) d_L_mean_II_36
        · refine lv_iconst (v := 1) hx hb d_L_mean_II_28 (by decide) ?_
          refine lv_goto (tgt := 33) hx hb d_L_mean_II_29 (by decide) ?_
          refine hg_cl (As := [.int x1, .int (1 : Int32)]) (rest := []) ⟨hx, hb, hml, hown, hts⟩ (c_P_meanOrSquares_IZ l dC dI ad cJ cI S x1 (1 : Int32) (in_isBodyNumber c1) _) (gw_callV (k := 2) hts tw_389 tw_390 tw_391 tw_2 tw_392 (by decide +kernel) rfl rfl ⟨Nat.le_of_ble_eq_true rfl, Nat.le_of_ble_eq_true rfl⟩) hK G hA (hx_T _ _) 1 1 rfl rfl rfl hl.1 rfl (Nat.le_of_ble_eq_true rfl) ⟨Nat.zero_le _, Nat.zero_le _⟩ d_L_mean_II_33 (fun H locs G => ?_)
          exact hg_lret hx hb hr hlocks hK hAe G (by have e9 : f_L_mean_II S x1 x2 = _ := (Eq.trans (if_neg c1) (Eq.trans (if_neg c2) (Eq.trans (if_pos c3) (if_pos c4)))); exact ⟨Eq.symm e9, rfl⟩) d_L_mean_II_36
      · refine lv_lconst (v := (1 : Int64)) hx hb d_L_mean_II_16 (by decide) ?_
        exact hg_lret hx hb hr hlocks hK hAe G (by have e9 : f_L_mean_II S x1 x2 = _ := (Eq.trans (if_neg c1) (Eq.trans (if_neg c2) (if_neg c3))); exact ⟨Eq.symm e9, rfl⟩) d_L_mean_II_17
