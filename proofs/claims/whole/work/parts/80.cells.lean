-- ===== MotionLabModel.mean(II)J 
abbrev y_M_mean_II : MethodName := ⟨"MotionLabModel", "mean", "(II)J"⟩
abbrev b_M_mean_II : ByteArray := prog_6_method_57_code
theorem d_M_mean_II_0 : decode b_M_mean_II 0 = .ok (.iload_n 1, 1) := by decide +kernel
theorem d_M_mean_II_1 : decode b_M_mean_II 1 = .ok (.bipush 6, 2) := by decide +kernel
theorem d_M_mean_II_3 : decode b_M_mean_II 3 = .ok (.invokestatic 190, 3) := by decide +kernel
theorem d_M_mean_II_6 : decode b_M_mean_II 6 = .ok (.ifCond .eq 11, 3) := by decide +kernel
theorem d_M_mean_II_9 : decode b_M_mean_II 9 = .ok (.iload_n 2, 1) := by decide +kernel
theorem d_M_mean_II_10 : decode b_M_mean_II 10 = .ok (.iconst 2, 1) := by decide +kernel
theorem d_M_mean_II_11 : decode b_M_mean_II 11 = .ok (.invokestatic 190, 3) := by decide +kernel
theorem d_M_mean_II_14 : decode b_M_mean_II 14 = .ok (.ifCond .ne 5, 3) := by decide +kernel
theorem d_M_mean_II_17 : decode b_M_mean_II 17 = .ok (.lconst 1, 1) := by decide +kernel
theorem d_M_mean_II_18 : decode b_M_mean_II 18 = .ok (.lreturn, 1) := by decide +kernel
theorem d_M_mean_II_19 : decode b_M_mean_II 19 = .ok (.lconst 0, 1) := by decide +kernel
theorem d_M_mean_II_20 : decode b_M_mean_II 20 = .ok (.lstore_n 3, 1) := by decide +kernel
theorem d_M_mean_II_21 : decode b_M_mean_II 21 = .ok (.lconst 0, 1) := by decide +kernel
theorem d_M_mean_II_22 : decode b_M_mean_II 22 = .ok (.lstore 5, 2) := by decide +kernel
theorem d_M_mean_II_24 : decode b_M_mean_II 24 = .ok (.iconst 0, 1) := by decide +kernel
theorem d_M_mean_II_25 : decode b_M_mean_II 25 = .ok (.istore 7, 2) := by decide +kernel
theorem d_M_mean_II_27 : decode b_M_mean_II 27 = .ok (.iload 7, 2) := by decide +kernel
theorem d_M_mean_II_29 : decode b_M_mean_II 29 = .ok (.bipush 8, 2) := by decide +kernel
theorem d_M_mean_II_31 : decode b_M_mean_II 31 = .ok (.if_icmp .ge 69, 3) := by decide +kernel
theorem d_M_mean_II_34 : decode b_M_mean_II 34 = .ok (.aload_n 0, 1) := by decide +kernel
theorem d_M_mean_II_35 : decode b_M_mean_II 35 = .ok (.iload 7, 2) := by decide +kernel
theorem d_M_mean_II_37 : decode b_M_mean_II 37 = .ok (.iload_n 1, 1) := by decide +kernel
theorem d_M_mean_II_38 : decode b_M_mean_II 38 = .ok (.invokevirtual 247, 3) := by decide +kernel
theorem d_M_mean_II_41 : decode b_M_mean_II 41 = .ok (.lstore 8, 2) := by decide +kernel
theorem d_M_mean_II_43 : decode b_M_mean_II 43 = .ok (.lload 8, 2) := by decide +kernel
theorem d_M_mean_II_45 : decode b_M_mean_II 45 = .ok (.lload_n 3, 1) := by decide +kernel
theorem d_M_mean_II_46 : decode b_M_mean_II 46 = .ok (.invokestatic 218, 3) := by decide +kernel
theorem d_M_mean_II_49 : decode b_M_mean_II 49 = .ok (.lstore 10, 2) := by decide +kernel
theorem d_M_mean_II_51 : decode b_M_mean_II 51 = .ok (.lload_n 3, 1) := by decide +kernel
theorem d_M_mean_II_52 : decode b_M_mean_II 52 = .ok (.lload 10, 2) := by decide +kernel
theorem d_M_mean_II_54 : decode b_M_mean_II 54 = .ok (.iconst 0, 1) := by decide +kernel
theorem d_M_mean_II_55 : decode b_M_mean_II 55 = .ok (.iload 7, 2) := by decide +kernel
theorem d_M_mean_II_57 : decode b_M_mean_II 57 = .ok (.i2l, 1) := by decide +kernel
theorem d_M_mean_II_58 : decode b_M_mean_II 58 = .ok (.iconst 0, 1) := by decide +kernel
theorem d_M_mean_II_59 : decode b_M_mean_II 59 = .ok (.iconst 0, 1) := by decide +kernel
theorem d_M_mean_II_60 : decode b_M_mean_II 60 = .ok (.invokestatic 89, 3) := by decide +kernel
theorem d_M_mean_II_63 : decode b_M_mean_II 63 = .ok (.ldc2_w 284, 3) := by decide +kernel
theorem d_M_mean_II_66 : decode b_M_mean_II 66 = .ok (.invokestatic 123, 3) := by decide +kernel
theorem d_M_mean_II_69 : decode b_M_mean_II 69 = .ok (.invokestatic 121, 3) := by decide +kernel
theorem d_M_mean_II_72 : decode b_M_mean_II 72 = .ok (.invokestatic 123, 3) := by decide +kernel
theorem d_M_mean_II_75 : decode b_M_mean_II 75 = .ok (.lstore_n 3, 1) := by decide +kernel
theorem d_M_mean_II_76 : decode b_M_mean_II 76 = .ok (.lload 5, 2) := by decide +kernel
theorem d_M_mean_II_78 : decode b_M_mean_II 78 = .ok (.lload 10, 2) := by decide +kernel
theorem d_M_mean_II_80 : decode b_M_mean_II 80 = .ok (.lload 8, 2) := by decide +kernel
theorem d_M_mean_II_82 : decode b_M_mean_II 82 = .ok (.lload_n 3, 1) := by decide +kernel
theorem d_M_mean_II_83 : decode b_M_mean_II 83 = .ok (.invokestatic 218, 3) := by decide +kernel
theorem d_M_mean_II_86 : decode b_M_mean_II 86 = .ok (.invokestatic 216, 3) := by decide +kernel
theorem d_M_mean_II_89 : decode b_M_mean_II 89 = .ok (.invokestatic 123, 3) := by decide +kernel
theorem d_M_mean_II_92 : decode b_M_mean_II 92 = .ok (.lstore 5, 2) := by decide +kernel
theorem d_M_mean_II_94 : decode b_M_mean_II 94 = .ok (.iinc 7 1, 3) := by decide +kernel
theorem d_M_mean_II_97 : decode b_M_mean_II 97 = .ok (.goto (-70), 3) := by decide +kernel
theorem d_M_mean_II_100 : decode b_M_mean_II 100 = .ok (.iload_n 2, 1) := by decide +kernel
theorem d_M_mean_II_101 : decode b_M_mean_II 101 = .ok (.ifCond .ne 7, 3) := by decide +kernel
theorem d_M_mean_II_104 : decode b_M_mean_II 104 = .ok (.lload_n 3, 1) := by decide +kernel
theorem d_M_mean_II_105 : decode b_M_mean_II 105 = .ok (.goto 5, 3) := by decide +kernel
theorem d_M_mean_II_108 : decode b_M_mean_II 108 = .ok (.lload 5, 2) := by decide +kernel
theorem d_M_mean_II_110 : decode b_M_mean_II 110 = .ok (.invokestatic 251, 3) := by decide +kernel
theorem d_M_mean_II_113 : decode b_M_mean_II 113 = .ok (.lreturn, 1) := by decide +kernel
def f_M_mean_II (S : MS) (x1 : Int32) (x2 : Int32) : Int64 :=
  if (f_M_in_II x1 (6 : Int32)) = 0 then
    (1 : Int64)
  else
    if (f_M_in_II x2 (2 : Int32)) = 0 then
      (1 : Int64)
    else
      let v3 : Int64 := f_M_number_II S (0 : Int32) x1
      let v4 : Int64 := f_M_subtract_JJ v3 (0 : Int64)
      let v5 : Int64 := f_M_add_JJ (0 : Int64) (f_M_divide_JJ v4 (f_M_add_JJ (f_M_exact_ZJII (0 : Int32) ((0 : Int32).toInt64) (0 : Int32) (0 : Int32)) (4607182418800017408 : Int64)))
      let v6 : Int64 := f_M_add_JJ (0 : Int64) (f_M_multiply_JJ v4 (f_M_subtract_JJ v3 v5))
      let v7 : Int64 := f_M_number_II S (1 : Int32) x1
      let v8 : Int64 := f_M_subtract_JJ v7 v5
      let v9 : Int64 := f_M_add_JJ v5 (f_M_divide_JJ v8 (f_M_add_JJ (f_M_exact_ZJII (0 : Int32) ((1 : Int32).toInt64) (0 : Int32) (0 : Int32)) (4607182418800017408 : Int64)))
      let v10 : Int64 := f_M_add_JJ v6 (f_M_multiply_JJ v8 (f_M_subtract_JJ v7 v9))
      let v11 : Int64 := f_M_number_II S (2 : Int32) x1
      let v12 : Int64 := f_M_subtract_JJ v11 v9
      let v13 : Int64 := f_M_add_JJ v9 (f_M_divide_JJ v12 (f_M_add_JJ (f_M_exact_ZJII (0 : Int32) ((2 : Int32).toInt64) (0 : Int32) (0 : Int32)) (4607182418800017408 : Int64)))
      let v14 : Int64 := f_M_add_JJ v10 (f_M_multiply_JJ v12 (f_M_subtract_JJ v11 v13))
      let v15 : Int64 := f_M_number_II S (3 : Int32) x1
      let v16 : Int64 := f_M_subtract_JJ v15 v13
      let v17 : Int64 := f_M_add_JJ v13 (f_M_divide_JJ v16 (f_M_add_JJ (f_M_exact_ZJII (0 : Int32) ((3 : Int32).toInt64) (0 : Int32) (0 : Int32)) (4607182418800017408 : Int64)))
      let v18 : Int64 := f_M_add_JJ v14 (f_M_multiply_JJ v16 (f_M_subtract_JJ v15 v17))
      let v19 : Int64 := f_M_number_II S (4 : Int32) x1
      let v20 : Int64 := f_M_subtract_JJ v19 v17
      let v21 : Int64 := f_M_add_JJ v17 (f_M_divide_JJ v20 (f_M_add_JJ (f_M_exact_ZJII (0 : Int32) ((4 : Int32).toInt64) (0 : Int32) (0 : Int32)) (4607182418800017408 : Int64)))
      let v22 : Int64 := f_M_add_JJ v18 (f_M_multiply_JJ v20 (f_M_subtract_JJ v19 v21))
      let v23 : Int64 := f_M_number_II S (5 : Int32) x1
      let v24 : Int64 := f_M_subtract_JJ v23 v21
      let v25 : Int64 := f_M_add_JJ v21 (f_M_divide_JJ v24 (f_M_add_JJ (f_M_exact_ZJII (0 : Int32) ((5 : Int32).toInt64) (0 : Int32) (0 : Int32)) (4607182418800017408 : Int64)))
      let v26 : Int64 := f_M_add_JJ v22 (f_M_multiply_JJ v24 (f_M_subtract_JJ v23 v25))
      let v27 : Int64 := f_M_number_II S (6 : Int32) x1
      let v28 : Int64 := f_M_subtract_JJ v27 v25
      let v29 : Int64 := f_M_add_JJ v25 (f_M_divide_JJ v28 (f_M_add_JJ (f_M_exact_ZJII (0 : Int32) ((6 : Int32).toInt64) (0 : Int32) (0 : Int32)) (4607182418800017408 : Int64)))
      let v30 : Int64 := f_M_add_JJ v26 (f_M_multiply_JJ v28 (f_M_subtract_JJ v27 v29))
      let v31 : Int64 := f_M_number_II S (7 : Int32) x1
      let v32 : Int64 := f_M_subtract_JJ v31 v29
      let v33 : Int64 := f_M_add_JJ v29 (f_M_divide_JJ v32 (f_M_add_JJ (f_M_exact_ZJII (0 : Int32) ((7 : Int32).toInt64) (0 : Int32) (0 : Int32)) (4607182418800017408 : Int64)))
      let v34 : Int64 := f_M_add_JJ v30 (f_M_multiply_JJ v32 (f_M_subtract_JJ v31 v33))
      if x2 = 0 then
        f_M_told_J v33
      else
        f_M_told_J v34
set_option maxHeartbeats 2000000 in
set_option maxRecDepth 100000 in
theorem c_M_mean_II (l : Launch) (dC : Nat → ClassId) (dI : Nat → Nat → Nat) (ad : Nat → Nat) (cJ cI : ClassId) (t0 t1 t2 : Nat) (S : MS) (x1 : Int32) (x2 : Int32) (sz : Nat) : hMl l y_M_mean_II (gw y_M_mean_II b_M_mean_II 12 (some .long)) { frames := 7, cells := 0, slots := 0, locals := 168 } [.ref (ad 0), .int x1, .int x2] (dC, dI) classes (tysJI cJ cI) (hE_M t0 t1 t2 (mW ad cJ cI S) sz) (mW ad cJ cI S) sz (f_M_mean_II S x1 x2) (mW ad cJ cI S) := by
  refine Met.ofW (cc := b_M_mean_II) (maxL := 12) (ret := (some .long)) (by decide) rfl ?_
  intro p e s m args below meth c s₁ B hml hv
  obtain ⟨rfl, hsz, hP, hK, hD0, hRT⟩ := hv
  have hx := B.exec
  have hb := B.bytes
  have hr := B.returns
  have hts := atoms_spec (ws := (gw y_M_mean_II b_M_mean_II 12 (some .long))) B.pre
  have hown : s.vm.findClass "MotionLabModel" = some m.cls := findClass_of_methodNamed B.named
  have hlocks := B.notSynchronized
  subst hsz
  have hD := hD0.self (sz := s.heap.size)
  have hRT : RTA t0 t1 t2 (va_A (mW ad cJ cI S) s.heap.size) s s.heap := hRT
  generalize hAe : va_A (mW ad cJ cI S) s.heap.size = A at hD hRT
  have hA : ∀ q : Nat, s.heap.size ≤ q → A q := fun q h => by rw [← hAe]; exact Or.inr h
  have G : hG (dC, dI) classes A s.heap (mW ad cJ cI S) s.heap [] := ⟨hP, hD, va_S.rf⟩
  have hl := lv_entry ([.ref (ad 0), .int x1, .int x2]) (n := 12) (Nat.le_of_ble_eq_true rfl)
  rw [lg_entry_eq]
  generalize (lg_sl ([.ref (ad 0), .int x1, .int x2]) ++ List.replicate (12 - (lg_sl ([.ref (ad 0), .int x1, .int x2])).length) Slot.unset).toArray = ls at hl ⊢
  have hl : lv_has ls 12 [(0, .ref (ad 0)), (1, .int x1), (2, .int x2)] := hl
  refine lv_iload_n hx hb d_M_mean_II_0 rfl (lv_at hl 1 rfl) ?_
  refine lv_bipush (v := (6 : Int32)) hx hb d_M_mean_II_1 (by decide) ?_
  refine pu_i (As := [.int x1, .int (6 : Int32)]) (rest := []) ⟨hx, hb, hml, hown, hts⟩ (c_M_in_II l _ x1 (6 : Int32)) pu_pre (gw_call (k := 2) hts tw_489 tw_490 tw_4 tw_491 (by decide +kernel) rfl rfl ⟨Nat.le_of_ble_eq_true rfl, Nat.le_of_ble_eq_true rfl⟩) rfl hl.1 rfl (Nat.le_of_ble_eq_true rfl) ⟨Nat.zero_le _, Nat.zero_le _⟩ d_M_mean_II_3 ?_
  refine lv_if_eq (tgt := 17) hx hb d_M_mean_II_6 (by decide) (fun c1 => ?_) (fun c1 => ?_)
  · refine lv_lconst (v := (1 : Int64)) hx hb d_M_mean_II_17 (by decide) ?_
    exact hg_lret hx hb hr hlocks hK hAe G (by have e9 : f_M_mean_II S x1 x2 = (1 : Int64) := (by exact (if_pos c1)); exact ⟨Eq.symm e9, rfl⟩) d_M_mean_II_18
  · refine lv_iload_n hx hb d_M_mean_II_9 rfl (lv_at hl 2 rfl) ?_
    refine lv_iconst (v := 2) hx hb d_M_mean_II_10 (by decide) ?_
    refine pu_i (As := [.int x2, .int (2 : Int32)]) (rest := []) ⟨hx, hb, hml, hown, hts⟩ (c_M_in_II l _ x2 (2 : Int32)) pu_pre (gw_call (k := 2) hts tw_489 tw_490 tw_4 tw_491 (by decide +kernel) rfl rfl ⟨Nat.le_of_ble_eq_true rfl, Nat.le_of_ble_eq_true rfl⟩) rfl hl.1 rfl (Nat.le_of_ble_eq_true rfl) ⟨Nat.zero_le _, Nat.zero_le _⟩ d_M_mean_II_11 ?_
    refine lv_if_ne (tgt := 19) hx hb d_M_mean_II_14 (by decide) (fun c2 => ?_) (fun c2 => ?_)
    · refine lv_lconst (v := (0 : Int64)) hx hb d_M_mean_II_19 (by decide) ?_
      refine lv_lstore_n (lv' := [(3, .long (0 : Int64)), (0, .ref (ad 0)), (1, .int x1), (2, .int x2)]) hx hb d_M_mean_II_20 rfl hl (by decide) rfl (fun ls hl => ?_)
      refine lv_lconst (v := (0 : Int64)) hx hb d_M_mean_II_21 (by decide) ?_
      refine lv_lstore (lv' := [(5, .long (0 : Int64)), (3, .long (0 : Int64)), (0, .ref (ad 0)), (1, .int x1), (2, .int x2)]) hx hb d_M_mean_II_22 hl (by decide) rfl (fun ls hl => ?_)
      refine lv_iconst (v := 0) hx hb d_M_mean_II_24 (by decide) ?_
      refine lv_istore (lv' := [(7, .int (0 : Int32)), (5, .long (0 : Int64)), (3, .long (0 : Int64)), (0, .ref (ad 0)), (1, .int x1), (2, .int x2)]) hx hb d_M_mean_II_25 hl (by decide) rfl (fun ls hl => ?_)
      refine lv_iload hx hb d_M_mean_II_27 (lv_at hl 0 rfl) ?_
      refine lv_bipush (v := (8 : Int32)) hx hb d_M_mean_II_29 (by decide) ?_
      refine lv_icmp_ge (tgt := 100) hx hb d_M_mean_II_31 (by decide) (fun c0 => absurd c0 (by decide)) (fun _ => ?_)
      refine lv_aload_n hx hb d_M_mean_II_34 rfl (lv_at hl 3 rfl) ?_
      refine lv_iload hx hb d_M_mean_II_35 (lv_at hl 0 rfl) ?_
      refine lv_iload_n hx hb d_M_mean_II_37 rfl (lv_at hl 4 rfl) ?_
      refine hg_cl (As := [.int (0 : Int32), .int x1]) (rest := []) ⟨hx, hb, hml, hown, hts⟩ (c_M_number_II l dC dI ad cJ cI t0 t1 t2 S (0 : Int32) x1 (in_of (by decide) (by decide)) _) (gw_callV (k := 2) hts tw_643 tw_645 tp_14 tw_4 tw_646 (by decide +kernel) rfl rfl ⟨Nat.le_of_ble_eq_true rfl, Nat.le_of_ble_eq_true rfl⟩) hK G hA (hx_M hRT G hA) 3 0 rfl rfl rfl hl.1 rfl (Nat.le_of_ble_eq_true rfl) ⟨Nat.zero_le _, Nat.zero_le _⟩ d_M_mean_II_38 (fun H locs G => ?_)
      refine lv_topl (fun v3 e3 => ?_)
      refine lv_lstore (lv' := [(8, .long v3), (7, .int (0 : Int32)), (5, .long (0 : Int64)), (3, .long (0 : Int64)), (0, .ref (ad 0)), (1, .int x1), (2, .int x2)]) hx hb d_M_mean_II_41 hl (by decide) rfl (fun ls hl => ?_)
      refine lv_lload hx hb d_M_mean_II_43 (lv_at hl 0 rfl) ?_
      refine lv_lload_n hx hb d_M_mean_II_45 rfl (lv_at hl 3 rfl) ?_
      refine pu_l (As := [.long v3, .long (0 : Int64)]) (rest := []) ⟨hx, hb, hml, hown, hts⟩ (c_M_subtract_JJ l _ t0 t1 t2 v3 (0 : Int64)) (pr_pre (hx_R hRT G)) (gw_call (k := 2) hts tw_588 tw_589 tw_4 tw_590 (by decide +kernel) rfl rfl ⟨Nat.le_of_ble_eq_true rfl, Nat.le_of_ble_eq_true rfl⟩) rfl hl.1 rfl (Nat.le_of_ble_eq_true rfl) ⟨Nat.zero_le _, Nat.zero_le _⟩ d_M_mean_II_46 ?_
      refine lv_topl (fun v4 e4 => ?_)
      refine lv_lstore (lv' := [(10, .long v4), (8, .long v3), (7, .int (0 : Int32)), (5, .long (0 : Int64)), (3, .long (0 : Int64)), (0, .ref (ad 0)), (1, .int x1), (2, .int x2)]) hx hb d_M_mean_II_49 hl (by decide) rfl (fun ls hl => ?_)
      refine lv_lload_n hx hb d_M_mean_II_51 rfl (lv_at hl 4 rfl) ?_
      refine lv_lload hx hb d_M_mean_II_52 (lv_at hl 0 rfl) ?_
      refine lv_iconst (v := 0) hx hb d_M_mean_II_54 (by decide) ?_
      refine lv_iload hx hb d_M_mean_II_55 (lv_at hl 2 rfl) ?_
      refine lv_i2l hx hb d_M_mean_II_57 rfl ?_
      refine lv_iconst (v := 0) hx hb d_M_mean_II_58 (by decide) ?_
      refine lv_iconst (v := 0) hx hb d_M_mean_II_59 (by decide) ?_
      refine pu_l (As := [.int (0 : Int32), .long ((0 : Int32).toInt64), .int (0 : Int32), .int (0 : Int32)]) (rest := [.long v4, .long (0 : Int64)]) ⟨hx, hb, hml, hown, hts⟩ (c_M_exact_ZJII l _ t0 t1 t2 (0 : Int32) ((0 : Int32).toInt64) (0 : Int32) (0 : Int32) (in_of (by decide) (by decide))) (pr_pre (hx_R hRT G)) (gw_call (k := 4) hts tw_536 tw_537 tw_4 tw_538 (by decide +kernel) rfl rfl ⟨Nat.le_of_ble_eq_true rfl, Nat.le_of_ble_eq_true rfl⟩) rfl hl.1 rfl (Nat.le_of_ble_eq_true rfl) ⟨Nat.zero_le _, Nat.zero_le _⟩ d_M_mean_II_60 ?_
      refine lv_ldc2 (v := (4607182418800017408 : Int64)) hx hb hown (hts _ (gm tw_700)) d_M_mean_II_63 ?_
      refine pu_l (As := [.long (f_M_exact_ZJII (0 : Int32) ((0 : Int32).toInt64) (0 : Int32) (0 : Int32)), .long (4607182418800017408 : Int64)]) (rest := [.long v4, .long (0 : Int64)]) ⟨hx, hb, hml, hown, hts⟩ (c_M_add_JJ l _ t0 t1 t2 (f_M_exact_ZJII (0 : Int32) ((0 : Int32).toInt64) (0 : Int32) (0 : Int32)) (4607182418800017408 : Int64)) (pr_pre (hx_R hRT G)) (gw_call (k := 2) hts tw_611 tw_612 tw_4 tw_613 (by decide +kernel) rfl rfl ⟨Nat.le_of_ble_eq_true rfl, Nat.le_of_ble_eq_true rfl⟩) rfl hl.1 rfl (Nat.le_of_ble_eq_true rfl) ⟨Nat.zero_le _, Nat.zero_le _⟩ d_M_mean_II_66 ?_
      refine pu_l (As := [.long v4, .long (f_M_add_JJ (f_M_exact_ZJII (0 : Int32) ((0 : Int32).toInt64) (0 : Int32) (0 : Int32)) (4607182418800017408 : Int64))]) (rest := [.long (0 : Int64)]) ⟨hx, hb, hml, hown, hts⟩ (c_M_divide_JJ l _ t0 t1 t2 v4 (f_M_add_JJ (f_M_exact_ZJII (0 : Int32) ((0 : Int32).toInt64) (0 : Int32) (0 : Int32)) (4607182418800017408 : Int64))) (pr_pre (hx_R hRT G)) (gw_call (k := 2) hts tw_624 tw_625 tw_4 tw_626 (by decide +kernel) rfl rfl ⟨Nat.le_of_ble_eq_true rfl, Nat.le_of_ble_eq_true rfl⟩) rfl hl.1 rfl (Nat.le_of_ble_eq_true rfl) ⟨Nat.zero_le _, Nat.zero_le _⟩ d_M_mean_II_69 ?_
      refine pu_l (As := [.long (0 : Int64), .long (f_M_divide_JJ v4 (f_M_add_JJ (f_M_exact_ZJII (0 : Int32) ((0 : Int32).toInt64) (0 : Int32) (0 : Int32)) (4607182418800017408 : Int64)))]) (rest := []) ⟨hx, hb, hml, hown, hts⟩ (c_M_add_JJ l _ t0 t1 t2 (0 : Int64) (f_M_divide_JJ v4 (f_M_add_JJ (f_M_exact_ZJII (0 : Int32) ((0 : Int32).toInt64) (0 : Int32) (0 : Int32)) (4607182418800017408 : Int64)))) (pr_pre (hx_R hRT G)) (gw_call (k := 2) hts tw_611 tw_612 tw_4 tw_613 (by decide +kernel) rfl rfl ⟨Nat.le_of_ble_eq_true rfl, Nat.le_of_ble_eq_true rfl⟩) rfl hl.1 rfl (Nat.le_of_ble_eq_true rfl) ⟨Nat.zero_le _, Nat.zero_le _⟩ d_M_mean_II_72 ?_
      refine lv_topl (fun v5 e5 => ?_)
      refine lv_lstore_n (lv' := [(3, .long v5), (10, .long v4), (8, .long v3), (7, .int (0 : Int32)), (5, .long (0 : Int64)), (0, .ref (ad 0)), (1, .int x1), (2, .int x2)]) hx hb d_M_mean_II_75 rfl hl (by decide) rfl (fun ls hl => ?_)
      refine lv_lload hx hb d_M_mean_II_76 (lv_at hl 4 rfl) ?_
      refine lv_lload hx hb d_M_mean_II_78 (lv_at hl 1 rfl) ?_
      refine lv_lload hx hb d_M_mean_II_80 (lv_at hl 2 rfl) ?_
      refine lv_lload_n hx hb d_M_mean_II_82 rfl (lv_at hl 0 rfl) ?_
      refine pu_l (As := [.long v3, .long v5]) (rest := [.long v4, .long (0 : Int64)]) ⟨hx, hb, hml, hown, hts⟩ (c_M_subtract_JJ l _ t0 t1 t2 v3 v5) (pr_pre (hx_R hRT G)) (gw_call (k := 2) hts tw_588 tw_589 tw_4 tw_590 (by decide +kernel) rfl rfl ⟨Nat.le_of_ble_eq_true rfl, Nat.le_of_ble_eq_true rfl⟩) rfl hl.1 rfl (Nat.le_of_ble_eq_true rfl) ⟨Nat.zero_le _, Nat.zero_le _⟩ d_M_mean_II_83 ?_
      refine pu_l (As := [.long v4, .long (f_M_subtract_JJ v3 v5)]) (rest := [.long (0 : Int64)]) ⟨hx, hb, hml, hown, hts⟩ (c_M_multiply_JJ l _ t0 t1 t2 v4 (f_M_subtract_JJ v3 v5)) (pr_pre (hx_R hRT G)) (gw_call (k := 2) hts tw_573 tw_574 tw_4 tw_575 (by decide +kernel) rfl rfl ⟨Nat.le_of_ble_eq_true rfl, Nat.le_of_ble_eq_true rfl⟩) rfl hl.1 rfl (Nat.le_of_ble_eq_true rfl) ⟨Nat.zero_le _, Nat.zero_le _⟩ d_M_mean_II_86 ?_
      refine pu_l (As := [.long (0 : Int64), .long (f_M_multiply_JJ v4 (f_M_subtract_JJ v3 v5))]) (rest := []) ⟨hx, hb, hml, hown, hts⟩ (c_M_add_JJ l _ t0 t1 t2 (0 : Int64) (f_M_multiply_JJ v4 (f_M_subtract_JJ v3 v5))) (pr_pre (hx_R hRT G)) (gw_call (k := 2) hts tw_611 tw_612 tw_4 tw_613 (by decide +kernel) rfl rfl ⟨Nat.le_of_ble_eq_true rfl, Nat.le_of_ble_eq_true rfl⟩) rfl hl.1 rfl (Nat.le_of_ble_eq_true rfl) ⟨Nat.zero_le _, Nat.zero_le _⟩ d_M_mean_II_89 ?_
      refine lv_topl (fun v6 e6 => ?_)
      refine lv_lstore (lv' := [(5, .long v6), (3, .long v5), (10, .long v4), (8, .long v3), (7, .int (0 : Int32)), (0, .ref (ad 0)), (1, .int x1), (2, .int x2)]) hx hb d_M_mean_II_92 hl (by decide) rfl (fun ls hl => ?_)
      refine lv_iinc (v := (1 : Int32)) (lv' := [(7, .int (1 : Int32)), (5, .long v6), (3, .long v5), (10, .long v4), (8, .long v3), (0, .ref (ad 0)), (1, .int x1), (2, .int x2)]) hx hb d_M_mean_II_94 hl (k := 4) rfl (by decide) (by decide) rfl (fun ls hl => ?_)
      refine lv_goto (tgt := 27) hx hb d_M_mean_II_97 (by decide) ?_
      refine lv_iload hx hb d_M_mean_II_27 (lv_at hl 0 rfl) ?_
      refine lv_bipush (v := (8 : Int32)) hx hb d_M_mean_II_29 (by decide) ?_
      refine lv_icmp_ge (tgt := 100) hx hb d_M_mean_II_31 (by decide) (fun c0 => absurd c0 (by decide)) (fun _ => ?_)
      refine lv_aload_n hx hb d_M_mean_II_34 rfl (lv_at hl 5 rfl) ?_
      refine lv_iload hx hb d_M_mean_II_35 (lv_at hl 0 rfl) ?_
      refine lv_iload_n hx hb d_M_mean_II_37 rfl (lv_at hl 6 rfl) ?_
      refine hg_cl (As := [.int (1 : Int32), .int x1]) (rest := []) ⟨hx, hb, hml, hown, hts⟩ (c_M_number_II l dC dI ad cJ cI t0 t1 t2 S (1 : Int32) x1 (in_of (by decide) (by decide)) _) (gw_callV (k := 2) hts tw_643 tw_645 tp_14 tw_4 tw_646 (by decide +kernel) rfl rfl ⟨Nat.le_of_ble_eq_true rfl, Nat.le_of_ble_eq_true rfl⟩) hK G hA (hx_M hRT G hA) 3 0 rfl rfl rfl hl.1 rfl (Nat.le_of_ble_eq_true rfl) ⟨Nat.zero_le _, Nat.zero_le _⟩ d_M_mean_II_38 (fun H locs G => ?_)
      refine lv_topl (fun v7 e7 => ?_)
      refine lv_lstore (lv' := [(8, .long v7), (7, .int (1 : Int32)), (5, .long v6), (3, .long v5), (10, .long v4), (0, .ref (ad 0)), (1, .int x1), (2, .int x2)]) hx hb d_M_mean_II_41 hl (by decide) rfl (fun ls hl => ?_)
      refine lv_lload hx hb d_M_mean_II_43 (lv_at hl 0 rfl) ?_
      refine lv_lload_n hx hb d_M_mean_II_45 rfl (lv_at hl 3 rfl) ?_
      refine pu_l (As := [.long v7, .long v5]) (rest := []) ⟨hx, hb, hml, hown, hts⟩ (c_M_subtract_JJ l _ t0 t1 t2 v7 v5) (pr_pre (hx_R hRT G)) (gw_call (k := 2) hts tw_588 tw_589 tw_4 tw_590 (by decide +kernel) rfl rfl ⟨Nat.le_of_ble_eq_true rfl, Nat.le_of_ble_eq_true rfl⟩) rfl hl.1 rfl (Nat.le_of_ble_eq_true rfl) ⟨Nat.zero_le _, Nat.zero_le _⟩ d_M_mean_II_46 ?_
      refine lv_topl (fun v8 e8 => ?_)
      refine lv_lstore (lv' := [(10, .long v8), (8, .long v7), (7, .int (1 : Int32)), (5, .long v6), (3, .long v5), (0, .ref (ad 0)), (1, .int x1), (2, .int x2)]) hx hb d_M_mean_II_49 hl (by decide) rfl (fun ls hl => ?_)
      refine lv_lload_n hx hb d_M_mean_II_51 rfl (lv_at hl 4 rfl) ?_
      refine lv_lload hx hb d_M_mean_II_52 (lv_at hl 0 rfl) ?_
      refine lv_iconst (v := 0) hx hb d_M_mean_II_54 (by decide) ?_
      refine lv_iload hx hb d_M_mean_II_55 (lv_at hl 2 rfl) ?_
      refine lv_i2l hx hb d_M_mean_II_57 rfl ?_
      refine lv_iconst (v := 0) hx hb d_M_mean_II_58 (by decide) ?_
      refine lv_iconst (v := 0) hx hb d_M_mean_II_59 (by decide) ?_
      refine pu_l (As := [.int (0 : Int32), .long ((1 : Int32).toInt64), .int (0 : Int32), .int (0 : Int32)]) (rest := [.long v8, .long v5]) ⟨hx, hb, hml, hown, hts⟩ (c_M_exact_ZJII l _ t0 t1 t2 (0 : Int32) ((1 : Int32).toInt64) (0 : Int32) (0 : Int32) (in_of (by decide) (by decide))) (pr_pre (hx_R hRT G)) (gw_call (k := 4) hts tw_536 tw_537 tw_4 tw_538 (by decide +kernel) rfl rfl ⟨Nat.le_of_ble_eq_true rfl, Nat.le_of_ble_eq_true rfl⟩) rfl hl.1 rfl (Nat.le_of_ble_eq_true rfl) ⟨Nat.zero_le _, Nat.zero_le _⟩ d_M_mean_II_60 ?_
      refine lv_ldc2 (v := (4607182418800017408 : Int64)) hx hb hown (hts _ (gm tw_700)) d_M_mean_II_63 ?_
      refine pu_l (As := [.long (f_M_exact_ZJII (0 : Int32) ((1 : Int32).toInt64) (0 : Int32) (0 : Int32)), .long (4607182418800017408 : Int64)]) (rest := [.long v8, .long v5]) ⟨hx, hb, hml, hown, hts⟩ (c_M_add_JJ l _ t0 t1 t2 (f_M_exact_ZJII (0 : Int32) ((1 : Int32).toInt64) (0 : Int32) (0 : Int32)) (4607182418800017408 : Int64)) (pr_pre (hx_R hRT G)) (gw_call (k := 2) hts tw_611 tw_612 tw_4 tw_613 (by decide +kernel) rfl rfl ⟨Nat.le_of_ble_eq_true rfl, Nat.le_of_ble_eq_true rfl⟩) rfl hl.1 rfl (Nat.le_of_ble_eq_true rfl) ⟨Nat.zero_le _, Nat.zero_le _⟩ d_M_mean_II_66 ?_
      refine pu_l (As := [.long v8, .long (f_M_add_JJ (f_M_exact_ZJII (0 : Int32) ((1 : Int32).toInt64) (0 : Int32) (0 : Int32)) (4607182418800017408 : Int64))]) (rest := [.long v5]) ⟨hx, hb, hml, hown, hts⟩ (c_M_divide_JJ l _ t0 t1 t2 v8 (f_M_add_JJ (f_M_exact_ZJII (0 : Int32) ((1 : Int32).toInt64) (0 : Int32) (0 : Int32)) (4607182418800017408 : Int64))) (pr_pre (hx_R hRT G)) (gw_call (k := 2) hts tw_624 tw_625 tw_4 tw_626 (by decide +kernel) rfl rfl ⟨Nat.le_of_ble_eq_true rfl, Nat.le_of_ble_eq_true rfl⟩) rfl hl.1 rfl (Nat.le_of_ble_eq_true rfl) ⟨Nat.zero_le _, Nat.zero_le _⟩ d_M_mean_II_69 ?_
      refine pu_l (As := [.long v5, .long (f_M_divide_JJ v8 (f_M_add_JJ (f_M_exact_ZJII (0 : Int32) ((1 : Int32).toInt64) (0 : Int32) (0 : Int32)) (4607182418800017408 : Int64)))]) (rest := []) ⟨hx, hb, hml, hown, hts⟩ (c_M_add_JJ l _ t0 t1 t2 v5 (f_M_divide_JJ v8 (f_M_add_JJ (f_M_exact_ZJII (0 : Int32) ((1 : Int32).toInt64) (0 : Int32) (0 : Int32)) (4607182418800017408 : Int64)))) (pr_pre (hx_R hRT G)) (gw_call (k := 2) hts tw_611 tw_612 tw_4 tw_613 (by decide +kernel) rfl rfl ⟨Nat.le_of_ble_eq_true rfl, Nat.le_of_ble_eq_true rfl⟩) rfl hl.1 rfl (Nat.le_of_ble_eq_true rfl) ⟨Nat.zero_le _, Nat.zero_le _⟩ d_M_mean_II_72 ?_
      refine lv_topl (fun v9 e9 => ?_)
      refine lv_lstore_n (lv' := [(3, .long v9), (10, .long v8), (8, .long v7), (7, .int (1 : Int32)), (5, .long v6), (0, .ref (ad 0)), (1, .int x1), (2, .int x2)]) hx hb d_M_mean_II_75 rfl hl (by decide) rfl (fun ls hl => ?_)
      refine lv_lload hx hb d_M_mean_II_76 (lv_at hl 4 rfl) ?_
      refine lv_lload hx hb d_M_mean_II_78 (lv_at hl 1 rfl) ?_
      refine lv_lload hx hb d_M_mean_II_80 (lv_at hl 2 rfl) ?_
      refine lv_lload_n hx hb d_M_mean_II_82 rfl (lv_at hl 0 rfl) ?_
      refine pu_l (As := [.long v7, .long v9]) (rest := [.long v8, .long v6]) ⟨hx, hb, hml, hown, hts⟩ (c_M_subtract_JJ l _ t0 t1 t2 v7 v9) (pr_pre (hx_R hRT G)) (gw_call (k := 2) hts tw_588 tw_589 tw_4 tw_590 (by decide +kernel) rfl rfl ⟨Nat.le_of_ble_eq_true rfl, Nat.le_of_ble_eq_true rfl⟩) rfl hl.1 rfl (Nat.le_of_ble_eq_true rfl) ⟨Nat.zero_le _, Nat.zero_le _⟩ d_M_mean_II_83 ?_
      refine pu_l (As := [.long v8, .long (f_M_subtract_JJ v7 v9)]) (rest := [.long v6]) ⟨hx, hb, hml, hown, hts⟩ (c_M_multiply_JJ l _ t0 t1 t2 v8 (f_M_subtract_JJ v7 v9)) (pr_pre (hx_R hRT G)) (gw_call (k := 2) hts tw_573 tw_574 tw_4 tw_575 (by decide +kernel) rfl rfl ⟨Nat.le_of_ble_eq_true rfl, Nat.le_of_ble_eq_true rfl⟩) rfl hl.1 rfl (Nat.le_of_ble_eq_true rfl) ⟨Nat.zero_le _, Nat.zero_le _⟩ d_M_mean_II_86 ?_
      refine pu_l (As := [.long v6, .long (f_M_multiply_JJ v8 (f_M_subtract_JJ v7 v9))]) (rest := []) ⟨hx, hb, hml, hown, hts⟩ (c_M_add_JJ l _ t0 t1 t2 v6 (f_M_multiply_JJ v8 (f_M_subtract_JJ v7 v9))) (pr_pre (hx_R hRT G)) (gw_call (k := 2) hts tw_611 tw_612 tw_4 tw_613 (by decide +kernel) rfl rfl ⟨Nat.le_of_ble_eq_true rfl, Nat.le_of_ble_eq_true rfl⟩) rfl hl.1 rfl (Nat.le_of_ble_eq_true rfl) ⟨Nat.zero_le _, Nat.zero_le _⟩ d_M_mean_II_89 ?_
      refine lv_topl (fun v10 e10 => ?_)
      refine lv_lstore (lv' := [(5, .long v10), (3, .long v9), (10, .long v8), (8, .long v7), (7, .int (1 : Int32)), (0, .ref (ad 0)), (1, .int x1), (2, .int x2)]) hx hb d_M_mean_II_92 hl (by decide) rfl (fun ls hl => ?_)
      refine lv_iinc (v := (2 : Int32)) (lv' := [(7, .int (2 : Int32)), (5, .long v10), (3, .long v9), (10, .long v8), (8, .long v7), (0, .ref (ad 0)), (1, .int x1), (2, .int x2)]) hx hb d_M_mean_II_94 hl (k := 4) rfl (by decide) (by decide) rfl (fun ls hl => ?_)
      refine lv_goto (tgt := 27) hx hb d_M_mean_II_97 (by decide) ?_
      refine lv_iload hx hb d_M_mean_II_27 (lv_at hl 0 rfl) ?_
      refine lv_bipush (v := (8 : Int32)) hx hb d_M_mean_II_29 (by decide) ?_
      refine lv_icmp_ge (tgt := 100) hx hb d_M_mean_II_31 (by decide) (fun c0 => absurd c0 (by decide)) (fun _ => ?_)
      refine lv_aload_n hx hb d_M_mean_II_34 rfl (lv_at hl 5 rfl) ?_
      refine lv_iload hx hb d_M_mean_II_35 (lv_at hl 0 rfl) ?_
      refine lv_iload_n hx hb d_M_mean_II_37 rfl (lv_at hl 6 rfl) ?_
      refine hg_cl (As := [.int (2 : Int32), .int x1]) (rest := []) ⟨hx, hb, hml, hown, hts⟩ (c_M_number_II l dC dI ad cJ cI t0 t1 t2 S (2 : Int32) x1 (in_of (by decide) (by decide)) _) (gw_callV (k := 2) hts tw_643 tw_645 tp_14 tw_4 tw_646 (by decide +kernel) rfl rfl ⟨Nat.le_of_ble_eq_true rfl, Nat.le_of_ble_eq_true rfl⟩) hK G hA (hx_M hRT G hA) 3 0 rfl rfl rfl hl.1 rfl (Nat.le_of_ble_eq_true rfl) ⟨Nat.zero_le _, Nat.zero_le _⟩ d_M_mean_II_38 (fun H locs G => ?_)
      refine lv_topl (fun v11 e11 => ?_)
      refine lv_lstore (lv' := [(8, .long v11), (7, .int (2 : Int32)), (5, .long v10), (3, .long v9), (10, .long v8), (0, .ref (ad 0)), (1, .int x1), (2, .int x2)]) hx hb d_M_mean_II_41 hl (by decide) rfl (fun ls hl => ?_)
      refine lv_lload hx hb d_M_mean_II_43 (lv_at hl 0 rfl) ?_
      refine lv_lload_n hx hb d_M_mean_II_45 rfl (lv_at hl 3 rfl) ?_
      refine pu_l (As := [.long v11, .long v9]) (rest := []) ⟨hx, hb, hml, hown, hts⟩ (c_M_subtract_JJ l _ t0 t1 t2 v11 v9) (pr_pre (hx_R hRT G)) (gw_call (k := 2) hts tw_588 tw_589 tw_4 tw_590 (by decide +kernel) rfl rfl ⟨Nat.le_of_ble_eq_true rfl, Nat.le_of_ble_eq_true rfl⟩) rfl hl.1 rfl (Nat.le_of_ble_eq_true rfl) ⟨Nat.zero_le _, Nat.zero_le _⟩ d_M_mean_II_46 ?_
      refine lv_topl (fun v12 e12 => ?_)
      refine lv_lstore (lv' := [(10, .long v12), (8, .long v11), (7, .int (2 : Int32)), (5, .long v10), (3, .long v9), (0, .ref (ad 0)), (1, .int x1), (2, .int x2)]) hx hb d_M_mean_II_49 hl (by decide) rfl (fun ls hl => ?_)
      refine lv_lload_n hx hb d_M_mean_II_51 rfl (lv_at hl 4 rfl) ?_
      refine lv_lload hx hb d_M_mean_II_52 (lv_at hl 0 rfl) ?_
      refine lv_iconst (v := 0) hx hb d_M_mean_II_54 (by decide) ?_
      refine lv_iload hx hb d_M_mean_II_55 (lv_at hl 2 rfl) ?_
      refine lv_i2l hx hb d_M_mean_II_57 rfl ?_
      refine lv_iconst (v := 0) hx hb d_M_mean_II_58 (by decide) ?_
      refine lv_iconst (v := 0) hx hb d_M_mean_II_59 (by decide) ?_
      refine pu_l (As := [.int (0 : Int32), .long ((2 : Int32).toInt64), .int (0 : Int32), .int (0 : Int32)]) (rest := [.long v12, .long v9]) ⟨hx, hb, hml, hown, hts⟩ (c_M_exact_ZJII l _ t0 t1 t2 (0 : Int32) ((2 : Int32).toInt64) (0 : Int32) (0 : Int32) (in_of (by decide) (by decide))) (pr_pre (hx_R hRT G)) (gw_call (k := 4) hts tw_536 tw_537 tw_4 tw_538 (by decide +kernel) rfl rfl ⟨Nat.le_of_ble_eq_true rfl, Nat.le_of_ble_eq_true rfl⟩) rfl hl.1 rfl (Nat.le_of_ble_eq_true rfl) ⟨Nat.zero_le _, Nat.zero_le _⟩ d_M_mean_II_60 ?_
      refine lv_ldc2 (v := (4607182418800017408 : Int64)) hx hb hown (hts _ (gm tw_700)) d_M_mean_II_63 ?_
      refine pu_l (As := [.long (f_M_exact_ZJII (0 : Int32) ((2 : Int32).toInt64) (0 : Int32) (0 : Int32)), .long (4607182418800017408 : Int64)]) (rest := [.long v12, .long v9]) ⟨hx, hb, hml, hown, hts⟩ (c_M_add_JJ l _ t0 t1 t2 (f_M_exact_ZJII (0 : Int32) ((2 : Int32).toInt64) (0 : Int32) (0 : Int32)) (4607182418800017408 : Int64)) (pr_pre (hx_R hRT G)) (gw_call (k := 2) hts tw_611 tw_612 tw_4 tw_613 (by decide +kernel) rfl rfl ⟨Nat.le_of_ble_eq_true rfl, Nat.le_of_ble_eq_true rfl⟩) rfl hl.1 rfl (Nat.le_of_ble_eq_true rfl) ⟨Nat.zero_le _, Nat.zero_le _⟩ d_M_mean_II_66 ?_
      refine pu_l (As := [.long v12, .long (f_M_add_JJ (f_M_exact_ZJII (0 : Int32) ((2 : Int32).toInt64) (0 : Int32) (0 : Int32)) (4607182418800017408 : Int64))]) (rest := [.long v9]) ⟨hx, hb, hml, hown, hts⟩ (c_M_divide_JJ l _ t0 t1 t2 v12 (f_M_add_JJ (f_M_exact_ZJII (0 : Int32) ((2 : Int32).toInt64) (0 : Int32) (0 : Int32)) (4607182418800017408 : Int64))) (pr_pre (hx_R hRT G)) (gw_call (k := 2) hts tw_624 tw_625 tw_4 tw_626 (by decide +kernel) rfl rfl ⟨Nat.le_of_ble_eq_true rfl, Nat.le_of_ble_eq_true rfl⟩) rfl hl.1 rfl (Nat.le_of_ble_eq_true rfl) ⟨Nat.zero_le _, Nat.zero_le _⟩ d_M_mean_II_69 ?_
      refine pu_l (As := [.long v9, .long (f_M_divide_JJ v12 (f_M_add_JJ (f_M_exact_ZJII (0 : Int32) ((2 : Int32).toInt64) (0 : Int32) (0 : Int32)) (4607182418800017408 : Int64)))]) (rest := []) ⟨hx, hb, hml, hown, hts⟩ (c_M_add_JJ l _ t0 t1 t2 v9 (f_M_divide_JJ v12 (f_M_add_JJ (f_M_exact_ZJII (0 : Int32) ((2 : Int32).toInt64) (0 : Int32) (0 : Int32)) (4607182418800017408 : Int64)))) (pr_pre (hx_R hRT G)) (gw_call (k := 2) hts tw_611 tw_612 tw_4 tw_613 (by decide +kernel) rfl rfl ⟨Nat.le_of_ble_eq_true rfl, Nat.le_of_ble_eq_true rfl⟩) rfl hl.1 rfl (Nat.le_of_ble_eq_true rfl) ⟨Nat.zero_le _, Nat.zero_le _⟩ d_M_mean_II_72 ?_
      refine lv_topl (fun v13 e13 => ?_)
      refine lv_lstore_n (lv' := [(3, .long v13), (10, .long v12), (8, .long v11), (7, .int (2 : Int32)), (5, .long v10), (0, .ref (ad 0)), (1, .int x1), (2, .int x2)]) hx hb d_M_mean_II_75 rfl hl (by decide) rfl (fun ls hl => ?_)
      refine lv_lload hx hb d_M_mean_II_76 (lv_at hl 4 rfl) ?_
      refine lv_lload hx hb d_M_mean_II_78 (lv_at hl 1 rfl) ?_
      refine lv_lload hx hb d_M_mean_II_80 (lv_at hl 2 rfl) ?_
      refine lv_lload_n hx hb d_M_mean_II_82 rfl (lv_at hl 0 rfl) ?_
      refine pu_l (As := [.long v11, .long v13]) (rest := [.long v12, .long v10]) ⟨hx, hb, hml, hown, hts⟩ (c_M_subtract_JJ l _ t0 t1 t2 v11 v13) (pr_pre (hx_R hRT G)) (gw_call (k := 2) hts tw_588 tw_589 tw_4 tw_590 (by decide +kernel) rfl rfl ⟨Nat.le_of_ble_eq_true rfl, Nat.le_of_ble_eq_true rfl⟩) rfl hl.1 rfl (Nat.le_of_ble_eq_true rfl) ⟨Nat.zero_le _, Nat.zero_le _⟩ d_M_mean_II_83 ?_
      refine pu_l (As := [.long v12, .long (f_M_subtract_JJ v11 v13)]) (rest := [.long v10]) ⟨hx, hb, hml, hown, hts⟩ (c_M_multiply_JJ l _ t0 t1 t2 v12 (f_M_subtract_JJ v11 v13)) (pr_pre (hx_R hRT G)) (gw_call (k := 2) hts tw_573 tw_574 tw_4 tw_575 (by decide +kernel) rfl rfl ⟨Nat.le_of_ble_eq_true rfl, Nat.le_of_ble_eq_true rfl⟩) rfl hl.1 rfl (Nat.le_of_ble_eq_true rfl) ⟨Nat.zero_le _, Nat.zero_le _⟩ d_M_mean_II_86 ?_
      refine pu_l (As := [.long v10, .long (f_M_multiply_JJ v12 (f_M_subtract_JJ v11 v13))]) (rest := []) ⟨hx, hb, hml, hown, hts⟩ (c_M_add_JJ l _ t0 t1 t2 v10 (f_M_multiply_JJ v12 (f_M_subtract_JJ v11 v13))) (pr_pre (hx_R hRT G)) (gw_call (k := 2) hts tw_611 tw_612 tw_4 tw_613 (by decide +kernel) rfl rfl ⟨Nat.le_of_ble_eq_true rfl, Nat.le_of_ble_eq_true rfl⟩) rfl hl.1 rfl (Nat.le_of_ble_eq_true rfl) ⟨Nat.zero_le _, Nat.zero_le _⟩ d_M_mean_II_89 ?_
      refine lv_topl (fun v14 e14 => ?_)
      refine lv_lstore (lv' := [(5, .long v14), (3, .long v13), (10, .long v12), (8, .long v11), (7, .int (2 : Int32)), (0, .ref (ad 0)), (1, .int x1), (2, .int x2)]) hx hb d_M_mean_II_92 hl (by decide) rfl (fun ls hl => ?_)
      refine lv_iinc (v := (3 : Int32)) (lv' := [(7, .int (3 : Int32)), (5, .long v14), (3, .long v13), (10, .long v12), (8, .long v11), (0, .ref (ad 0)), (1, .int x1), (2, .int x2)]) hx hb d_M_mean_II_94 hl (k := 4) rfl (by decide) (by decide) rfl (fun ls hl => ?_)
      refine lv_goto (tgt := 27) hx hb d_M_mean_II_97 (by decide) ?_
      refine lv_iload hx hb d_M_mean_II_27 (lv_at hl 0 rfl) ?_
      refine lv_bipush (v := (8 : Int32)) hx hb d_M_mean_II_29 (by decide) ?_
      refine lv_icmp_ge (tgt := 100) hx hb d_M_mean_II_31 (by decide) (fun c0 => absurd c0 (by decide)) (fun _ => ?_)
      refine lv_aload_n hx hb d_M_mean_II_34 rfl (lv_at hl 5 rfl) ?_
      refine lv_iload hx hb d_M_mean_II_35 (lv_at hl 0 rfl) ?_
      refine lv_iload_n hx hb d_M_mean_II_37 rfl (lv_at hl 6 rfl) ?_
      refine hg_cl (As := [.int (3 : Int32), .int x1]) (rest := []) ⟨hx, hb, hml, hown, hts⟩ (c_M_number_II l dC dI ad cJ cI t0 t1 t2 S (3 : Int32) x1 (in_of (by decide) (by decide)) _) (gw_callV (k := 2) hts tw_643 tw_645 tp_14 tw_4 tw_646 (by decide +kernel) rfl rfl ⟨Nat.le_of_ble_eq_true rfl, Nat.le_of_ble_eq_true rfl⟩) hK G hA (hx_M hRT G hA) 3 0 rfl rfl rfl hl.1 rfl (Nat.le_of_ble_eq_true rfl) ⟨Nat.zero_le _, Nat.zero_le _⟩ d_M_mean_II_38 (fun H locs G => ?_)
      refine lv_topl (fun v15 e15 => ?_)
      refine lv_lstore (lv' := [(8, .long v15), (7, .int (3 : Int32)), (5, .long v14), (3, .long v13), (10, .long v12), (0, .ref (ad 0)), (1, .int x1), (2, .int x2)]) hx hb d_M_mean_II_41 hl (by decide) rfl (fun ls hl => ?_)
      refine lv_lload hx hb d_M_mean_II_43 (lv_at hl 0 rfl) ?_
      refine lv_lload_n hx hb d_M_mean_II_45 rfl (lv_at hl 3 rfl) ?_
      refine pu_l (As := [.long v15, .long v13]) (rest := []) ⟨hx, hb, hml, hown, hts⟩ (c_M_subtract_JJ l _ t0 t1 t2 v15 v13) (pr_pre (hx_R hRT G)) (gw_call (k := 2) hts tw_588 tw_589 tw_4 tw_590 (by decide +kernel) rfl rfl ⟨Nat.le_of_ble_eq_true rfl, Nat.le_of_ble_eq_true rfl⟩) rfl hl.1 rfl (Nat.le_of_ble_eq_true rfl) ⟨Nat.zero_le _, Nat.zero_le _⟩ d_M_mean_II_46 ?_
      refine lv_topl (fun v16 e16 => ?_)
      refine lv_lstore (lv' := [(10, .long v16), (8, .long v15), (7, .int (3 : Int32)), (5, .long v14), (3, .long v13), (0, .ref (ad 0)), (1, .int x1), (2, .int x2)]) hx hb d_M_mean_II_49 hl (by decide) rfl (fun ls hl => ?_)
      refine lv_lload_n hx hb d_M_mean_II_51 rfl (lv_at hl 4 rfl) ?_
      refine lv_lload hx hb d_M_mean_II_52 (lv_at hl 0 rfl) ?_
      refine lv_iconst (v := 0) hx hb d_M_mean_II_54 (by decide) ?_
      refine lv_iload hx hb d_M_mean_II_55 (lv_at hl 2 rfl) ?_
      refine lv_i2l hx hb d_M_mean_II_57 rfl ?_
      refine lv_iconst (v := 0) hx hb d_M_mean_II_58 (by decide) ?_
      refine lv_iconst (v := 0) hx hb d_M_mean_II_59 (by decide) ?_
      refine pu_l (As := [.int (0 : Int32), .long ((3 : Int32).toInt64), .int (0 : Int32), .int (0 : Int32)]) (rest := [.long v16, .long v13]) ⟨hx, hb, hml, hown, hts⟩ (c_M_exact_ZJII l _ t0 t1 t2 (0 : Int32) ((3 : Int32).toInt64) (0 : Int32) (0 : Int32) (in_of (by decide) (by decide))) (pr_pre (hx_R hRT G)) (gw_call (k := 4) hts tw_536 tw_537 tw_4 tw_538 (by decide +kernel) rfl rfl ⟨Nat.le_of_ble_eq_true rfl, Nat.le_of_ble_eq_true rfl⟩) rfl hl.1 rfl (Nat.le_of_ble_eq_true rfl) ⟨Nat.zero_le _, Nat.zero_le _⟩ d_M_mean_II_60 ?_
      refine lv_ldc2 (v := (4607182418800017408 : Int64)) hx hb hown (hts _ (gm tw_700)) d_M_mean_II_63 ?_
      refine pu_l (As := [.long (f_M_exact_ZJII (0 : Int32) ((3 : Int32).toInt64) (0 : Int32) (0 : Int32)), .long (4607182418800017408 : Int64)]) (rest := [.long v16, .long v13]) ⟨hx, hb, hml, hown, hts⟩ (c_M_add_JJ l _ t0 t1 t2 (f_M_exact_ZJII (0 : Int32) ((3 : Int32).toInt64) (0 : Int32) (0 : Int32)) (4607182418800017408 : Int64)) (pr_pre (hx_R hRT G)) (gw_call (k := 2) hts tw_611 tw_612 tw_4 tw_613 (by decide +kernel) rfl rfl ⟨Nat.le_of_ble_eq_true rfl, Nat.le_of_ble_eq_true rfl⟩) rfl hl.1 rfl (Nat.le_of_ble_eq_true rfl) ⟨Nat.zero_le _, Nat.zero_le _⟩ d_M_mean_II_66 ?_
      refine pu_l (As := [.long v16, .long (f_M_add_JJ (f_M_exact_ZJII (0 : Int32) ((3 : Int32).toInt64) (0 : Int32) (0 : Int32)) (4607182418800017408 : Int64))]) (rest := [.long v13]) ⟨hx, hb, hml, hown, hts⟩ (c_M_divide_JJ l _ t0 t1 t2 v16 (f_M_add_JJ (f_M_exact_ZJII (0 : Int32) ((3 : Int32).toInt64) (0 : Int32) (0 : Int32)) (4607182418800017408 : Int64))) (pr_pre (hx_R hRT G)) (gw_call (k := 2) hts tw_624 tw_625 tw_4 tw_626 (by decide +kernel) rfl rfl ⟨Nat.le_of_ble_eq_true rfl, Nat.le_of_ble_eq_true rfl⟩) rfl hl.1 rfl (Nat.le_of_ble_eq_true rfl) ⟨Nat.zero_le _, Nat.zero_le _⟩ d_M_mean_II_69 ?_
      refine pu_l (As := [.long v13, .long (f_M_divide_JJ v16 (f_M_add_JJ (f_M_exact_ZJII (0 : Int32) ((3 : Int32).toInt64) (0 : Int32) (0 : Int32)) (4607182418800017408 : Int64)))]) (rest := []) ⟨hx, hb, hml, hown, hts⟩ (c_M_add_JJ l _ t0 t1 t2 v13 (f_M_divide_JJ v16 (f_M_add_JJ (f_M_exact_ZJII (0 : Int32) ((3 : Int32).toInt64) (0 : Int32) (0 : Int32)) (4607182418800017408 : Int64)))) (pr_pre (hx_R hRT G)) (gw_call (k := 2) hts tw_611 tw_612 tw_4 tw_613 (by decide +kernel) rfl rfl ⟨Nat.le_of_ble_eq_true rfl, Nat.le_of_ble_eq_true rfl⟩) rfl hl.1 rfl (Nat.le_of_ble_eq_true rfl) ⟨Nat.zero_le _, Nat.zero_le _⟩ d_M_mean_II_72 ?_
      refine lv_topl (fun v17 e17 => ?_)
      refine lv_lstore_n (lv' := [(3, .long v17), (10, .long v16), (8, .long v15), (7, .int (3 : Int32)), (5, .long v14), (0, .ref (ad 0)), (1, .int x1), (2, .int x2)]) hx hb d_M_mean_II_75 rfl hl (by decide) rfl (fun ls hl => ?_)
      refine lv_lload hx hb d_M_mean_II_76 (lv_at hl 4 rfl) ?_
      refine lv_lload hx hb d_M_mean_II_78 (lv_at hl 1 rfl) ?_
      refine lv_lload hx hb d_M_mean_II_80 (lv_at hl 2 rfl) ?_
      refine lv_lload_n hx hb d_M_mean_II_82 rfl (lv_at hl 0 rfl) ?_
      refine pu_l (As := [.long v15, .long v17]) (rest := [.long v16, .long v14]) ⟨hx, hb, hml, hown, hts⟩ (c_M_subtract_JJ l _ t0 t1 t2 v15 v17) (pr_pre (hx_R hRT G)) (gw_call (k := 2) hts tw_588 tw_589 tw_4 tw_590 (by decide +kernel) rfl rfl ⟨Nat.le_of_ble_eq_true rfl, Nat.le_of_ble_eq_true rfl⟩) rfl hl.1 rfl (Nat.le_of_ble_eq_true rfl) ⟨Nat.zero_le _, Nat.zero_le _⟩ d_M_mean_II_83 ?_
      refine pu_l (As := [.long v16, .long (f_M_subtract_JJ v15 v17)]) (rest := [.long v14]) ⟨hx, hb, hml, hown, hts⟩ (c_M_multiply_JJ l _ t0 t1 t2 v16 (f_M_subtract_JJ v15 v17)) (pr_pre (hx_R hRT G)) (gw_call (k := 2) hts tw_573 tw_574 tw_4 tw_575 (by decide +kernel) rfl rfl ⟨Nat.le_of_ble_eq_true rfl, Nat.le_of_ble_eq_true rfl⟩) rfl hl.1 rfl (Nat.le_of_ble_eq_true rfl) ⟨Nat.zero_le _, Nat.zero_le _⟩ d_M_mean_II_86 ?_
      refine pu_l (As := [.long v14, .long (f_M_multiply_JJ v16 (f_M_subtract_JJ v15 v17))]) (rest := []) ⟨hx, hb, hml, hown, hts⟩ (c_M_add_JJ l _ t0 t1 t2 v14 (f_M_multiply_JJ v16 (f_M_subtract_JJ v15 v17))) (pr_pre (hx_R hRT G)) (gw_call (k := 2) hts tw_611 tw_612 tw_4 tw_613 (by decide +kernel) rfl rfl ⟨Nat.le_of_ble_eq_true rfl, Nat.le_of_ble_eq_true rfl⟩) rfl hl.1 rfl (Nat.le_of_ble_eq_true rfl) ⟨Nat.zero_le _, Nat.zero_le _⟩ d_M_mean_II_89 ?_
      refine lv_topl (fun v18 e18 => ?_)
      refine lv_lstore (lv' := [(5, .long v18), (3, .long v17), (10, .long v16), (8, .long v15), (7, .int (3 : Int32)), (0, .ref (ad 0)), (1, .int x1), (2, .int x2)]) hx hb d_M_mean_II_92 hl (by decide) rfl (fun ls hl => ?_)
      refine lv_iinc (v := (4 : Int32)) (lv' := [(7, .int (4 : Int32)), (5, .long v18), (3, .long v17), (10, .long v16), (8, .long v15), (0, .ref (ad 0)), (1, .int x1), (2, .int x2)]) hx hb d_M_mean_II_94 hl (k := 4) rfl (by decide) (by decide) rfl (fun ls hl => ?_)
      refine lv_goto (tgt := 27) hx hb d_M_mean_II_97 (by decide) ?_
      refine lv_iload hx hb d_M_mean_II_27 (lv_at hl 0 rfl) ?_
      refine lv_bipush (v := (8 : Int32)) hx hb d_M_mean_II_29 (by decide) ?_
      refine lv_icmp_ge (tgt := 100) hx hb d_M_mean_II_31 (by decide) (fun c0 => absurd c0 (by decide)) (fun _ => ?_)
      refine lv_aload_n hx hb d_M_mean_II_34 rfl (lv_at hl 5 rfl) ?_
      refine lv_iload hx hb d_M_mean_II_35 (lv_at hl 0 rfl) ?_
      refine lv_iload_n hx hb d_M_mean_II_37 rfl (lv_at hl 6 rfl) ?_
      refine hg_cl (As := [.int (4 : Int32), .int x1]) (rest := []) ⟨hx, hb, hml, hown, hts⟩ (c_M_number_II l dC dI ad cJ cI t0 t1 t2 S (4 : Int32) x1 (in_of (by decide) (by decide)) _) (gw_callV (k := 2) hts tw_643 tw_645 tp_14 tw_4 tw_646 (by decide +kernel) rfl rfl ⟨Nat.le_of_ble_eq_true rfl, Nat.le_of_ble_eq_true rfl⟩) hK G hA (hx_M hRT G hA) 3 0 rfl rfl rfl hl.1 rfl (Nat.le_of_ble_eq_true rfl) ⟨Nat.zero_le _, Nat.zero_le _⟩ d_M_mean_II_38 (fun H locs G => ?_)
      refine lv_topl (fun v19 e19 => ?_)
      refine lv_lstore (lv' := [(8, .long v19), (7, .int (4 : Int32)), (5, .long v18), (3, .long v17), (10, .long v16), (0, .ref (ad 0)), (1, .int x1), (2, .int x2)]) hx hb d_M_mean_II_41 hl (by decide) rfl (fun ls hl => ?_)
      refine lv_lload hx hb d_M_mean_II_43 (lv_at hl 0 rfl) ?_
      refine lv_lload_n hx hb d_M_mean_II_45 rfl (lv_at hl 3 rfl) ?_
      refine pu_l (As := [.long v19, .long v17]) (rest := []) ⟨hx, hb, hml, hown, hts⟩ (c_M_subtract_JJ l _ t0 t1 t2 v19 v17) (pr_pre (hx_R hRT G)) (gw_call (k := 2) hts tw_588 tw_589 tw_4 tw_590 (by decide +kernel) rfl rfl ⟨Nat.le_of_ble_eq_true rfl, Nat.le_of_ble_eq_true rfl⟩) rfl hl.1 rfl (Nat.le_of_ble_eq_true rfl) ⟨Nat.zero_le _, Nat.zero_le _⟩ d_M_mean_II_46 ?_
      refine lv_topl (fun v20 e20 => ?_)
      refine lv_lstore (lv' := [(10, .long v20), (8, .long v19), (7, .int (4 : Int32)), (5, .long v18), (3, .long v17), (0, .ref (ad 0)), (1, .int x1), (2, .int x2)]) hx hb d_M_mean_II_49 hl (by decide) rfl (fun ls hl => ?_)
      refine lv_lload_n hx hb d_M_mean_II_51 rfl (lv_at hl 4 rfl) ?_
      refine lv_lload hx hb d_M_mean_II_52 (lv_at hl 0 rfl) ?_
      refine lv_iconst (v := 0) hx hb d_M_mean_II_54 (by decide) ?_
      refine lv_iload hx hb d_M_mean_II_55 (lv_at hl 2 rfl) ?_
      refine lv_i2l hx hb d_M_mean_II_57 rfl ?_
      refine lv_iconst (v := 0) hx hb d_M_mean_II_58 (by decide) ?_
      refine lv_iconst (v := 0) hx hb d_M_mean_II_59 (by decide) ?_
      refine pu_l (As := [.int (0 : Int32), .long ((4 : Int32).toInt64), .int (0 : Int32), .int (0 : Int32)]) (rest := [.long v20, .long v17]) ⟨hx, hb, hml, hown, hts⟩ (c_M_exact_ZJII l _ t0 t1 t2 (0 : Int32) ((4 : Int32).toInt64) (0 : Int32) (0 : Int32) (in_of (by decide) (by decide))) (pr_pre (hx_R hRT G)) (gw_call (k := 4) hts tw_536 tw_537 tw_4 tw_538 (by decide +kernel) rfl rfl ⟨Nat.le_of_ble_eq_true rfl, Nat.le_of_ble_eq_true rfl⟩) rfl hl.1 rfl (Nat.le_of_ble_eq_true rfl) ⟨Nat.zero_le _, Nat.zero_le _⟩ d_M_mean_II_60 ?_
      refine lv_ldc2 (v := (4607182418800017408 : Int64)) hx hb hown (hts _ (gm tw_700)) d_M_mean_II_63 ?_
      refine pu_l (As := [.long (f_M_exact_ZJII (0 : Int32) ((4 : Int32).toInt64) (0 : Int32) (0 : Int32)), .long (4607182418800017408 : Int64)]) (rest := [.long v20, .long v17]) ⟨hx, hb, hml, hown, hts⟩ (c_M_add_JJ l _ t0 t1 t2 (f_M_exact_ZJII (0 : Int32) ((4 : Int32).toInt64) (0 : Int32) (0 : Int32)) (4607182418800017408 : Int64)) (pr_pre (hx_R hRT G)) (gw_call (k := 2) hts tw_611 tw_612 tw_4 tw_613 (by decide +kernel) rfl rfl ⟨Nat.le_of_ble_eq_true rfl, Nat.le_of_ble_eq_true rfl⟩) rfl hl.1 rfl (Nat.le_of_ble_eq_true rfl) ⟨Nat.zero_le _, Nat.zero_le _⟩ d_M_mean_II_66 ?_
      refine pu_l (As := [.long v20, .long (f_M_add_JJ (f_M_exact_ZJII (0 : Int32) ((4 : Int32).toInt64) (0 : Int32) (0 : Int32)) (4607182418800017408 : Int64))]) (rest := [.long v17]) ⟨hx, hb, hml, hown, hts⟩ (c_M_divide_JJ l _ t0 t1 t2 v20 (f_M_add_JJ (f_M_exact_ZJII (0 : Int32) ((4 : Int32).toInt64) (0 : Int32) (0 : Int32)) (4607182418800017408 : Int64))) (pr_pre (hx_R hRT G)) (gw_call (k := 2) hts tw_624 tw_625 tw_4 tw_626 (by decide +kernel) rfl rfl ⟨Nat.le_of_ble_eq_true rfl, Nat.le_of_ble_eq_true rfl⟩) rfl hl.1 rfl (Nat.le_of_ble_eq_true rfl) ⟨Nat.zero_le _, Nat.zero_le _⟩ d_M_mean_II_69 ?_
      refine pu_l (As := [.long v17, .long (f_M_divide_JJ v20 (f_M_add_JJ (f_M_exact_ZJII (0 : Int32) ((4 : Int32).toInt64) (0 : Int32) (0 : Int32)) (4607182418800017408 : Int64)))]) (rest := []) ⟨hx, hb, hml, hown, hts⟩ (c_M_add_JJ l _ t0 t1 t2 v17 (f_M_divide_JJ v20 (f_M_add_JJ (f_M_exact_ZJII (0 : Int32) ((4 : Int32).toInt64) (0 : Int32) (0 : Int32)) (4607182418800017408 : Int64)))) (pr_pre (hx_R hRT G)) (gw_call (k := 2) hts tw_611 tw_612 tw_4 tw_613 (by decide +kernel) rfl rfl ⟨Nat.le_of_ble_eq_true rfl, Nat.le_of_ble_eq_true rfl⟩) rfl hl.1 rfl (Nat.le_of_ble_eq_true rfl) ⟨Nat.zero_le _, Nat.zero_le _⟩ d_M_mean_II_72 ?_
      refine lv_topl (fun v21 e21 => ?_)
      refine lv_lstore_n (lv' := [(3, .long v21), (10, .long v20), (8, .long v19), (7, .int (4 : Int32)), (5, .long v18), (0, .ref (ad 0)), (1, .int x1), (2, .int x2)]) hx hb d_M_mean_II_75 rfl hl (by decide) rfl (fun ls hl => ?_)
      refine lv_lload hx hb d_M_mean_II_76 (lv_at hl 4 rfl) ?_
      refine lv_lload hx hb d_M_mean_II_78 (lv_at hl 1 rfl) ?_
      refine lv_lload hx hb d_M_mean_II_80 (lv_at hl 2 rfl) ?_
      refine lv_lload_n hx hb d_M_mean_II_82 rfl (lv_at hl 0 rfl) ?_
      refine pu_l (As := [.long v19, .long v21]) (rest := [.long v20, .long v18]) ⟨hx, hb, hml, hown, hts⟩ (c_M_subtract_JJ l _ t0 t1 t2 v19 v21) (pr_pre (hx_R hRT G)) (gw_call (k := 2) hts tw_588 tw_589 tw_4 tw_590 (by decide +kernel) rfl rfl ⟨Nat.le_of_ble_eq_true rfl, Nat.le_of_ble_eq_true rfl⟩) rfl hl.1 rfl (Nat.le_of_ble_eq_true rfl) ⟨Nat.zero_le _, Nat.zero_le _⟩ d_M_mean_II_83 ?_
      refine pu_l (As := [.long v20, .long (f_M_subtract_JJ v19 v21)]) (rest := [.long v18]) ⟨hx, hb, hml, hown, hts⟩ (c_M_multiply_JJ l _ t0 t1 t2 v20 (f_M_subtract_JJ v19 v21)) (pr_pre (hx_R hRT G)) (gw_call (k := 2) hts tw_573 tw_574 tw_4 tw_575 (by decide +kernel) rfl rfl ⟨Nat.le_of_ble_eq_true rfl, Nat.le_of_ble_eq_true rfl⟩) rfl hl.1 rfl (Nat.le_of_ble_eq_true rfl) ⟨Nat.zero_le _, Nat.zero_le _⟩ d_M_mean_II_86 ?_
      refine pu_l (As := [.long v18, .long (f_M_multiply_JJ v20 (f_M_subtract_JJ v19 v21))]) (rest := []) ⟨hx, hb, hml, hown, hts⟩ (c_M_add_JJ l _ t0 t1 t2 v18 (f_M_multiply_JJ v20 (f_M_subtract_JJ v19 v21))) (pr_pre (hx_R hRT G)) (gw_call (k := 2) hts tw_611 tw_612 tw_4 tw_613 (by decide +kernel) rfl rfl ⟨Nat.le_of_ble_eq_true rfl, Nat.le_of_ble_eq_true rfl⟩) rfl hl.1 rfl (Nat.le_of_ble_eq_true rfl) ⟨Nat.zero_le _, Nat.zero_le _⟩ d_M_mean_II_89 ?_
      refine lv_topl (fun v22 e22 => ?_)
      refine lv_lstore (lv' := [(5, .long v22), (3, .long v21), (10, .long v20), (8, .long v19), (7, .int (4 : Int32)), (0, .ref (ad 0)), (1, .int x1), (2, .int x2)]) hx hb d_M_mean_II_92 hl (by decide) rfl (fun ls hl => ?_)
      refine lv_iinc (v := (5 : Int32)) (lv' := [(7, .int (5 : Int32)), (5, .long v22), (3, .long v21), (10, .long v20), (8, .long v19), (0, .ref (ad 0)), (1, .int x1), (2, .int x2)]) hx hb d_M_mean_II_94 hl (k := 4) rfl (by decide) (by decide) rfl (fun ls hl => ?_)
      refine lv_goto (tgt := 27) hx hb d_M_mean_II_97 (by decide) ?_
      refine lv_iload hx hb d_M_mean_II_27 (lv_at hl 0 rfl) ?_
      refine lv_bipush (v := (8 : Int32)) hx hb d_M_mean_II_29 (by decide) ?_
      refine lv_icmp_ge (tgt := 100) hx hb d_M_mean_II_31 (by decide) (fun c0 => absurd c0 (by decide)) (fun _ => ?_)
      refine lv_aload_n hx hb d_M_mean_II_34 rfl (lv_at hl 5 rfl) ?_
      refine lv_iload hx hb d_M_mean_II_35 (lv_at hl 0 rfl) ?_
      refine lv_iload_n hx hb d_M_mean_II_37 rfl (lv_at hl 6 rfl) ?_
      refine hg_cl (As := [.int (5 : Int32), .int x1]) (rest := []) ⟨hx, hb, hml, hown, hts⟩ (c_M_number_II l dC dI ad cJ cI t0 t1 t2 S (5 : Int32) x1 (in_of (by decide) (by decide)) _) (gw_callV (k := 2) hts tw_643 tw_645 tp_14 tw_4 tw_646 (by decide +kernel) rfl rfl ⟨Nat.le_of_ble_eq_true rfl, Nat.le_of_ble_eq_true rfl⟩) hK G hA (hx_M hRT G hA) 3 0 rfl rfl rfl hl.1 rfl (Nat.le_of_ble_eq_true rfl) ⟨Nat.zero_le _, Nat.zero_le _⟩ d_M_mean_II_38 (fun H locs G => ?_)
      refine lv_topl (fun v23 e23 => ?_)
      refine lv_lstore (lv' := [(8, .long v23), (7, .int (5 : Int32)), (5, .long v22), (3, .long v21), (10, .long v20), (0, .ref (ad 0)), (1, .int x1), (2, .int x2)]) hx hb d_M_mean_II_41 hl (by decide) rfl (fun ls hl => ?_)
      refine lv_lload hx hb d_M_mean_II_43 (lv_at hl 0 rfl) ?_
      refine lv_lload_n hx hb d_M_mean_II_45 rfl (lv_at hl 3 rfl) ?_
      refine pu_l (As := [.long v23, .long v21]) (rest := []) ⟨hx, hb, hml, hown, hts⟩ (c_M_subtract_JJ l _ t0 t1 t2 v23 v21) (pr_pre (hx_R hRT G)) (gw_call (k := 2) hts tw_588 tw_589 tw_4 tw_590 (by decide +kernel) rfl rfl ⟨Nat.le_of_ble_eq_true rfl, Nat.le_of_ble_eq_true rfl⟩) rfl hl.1 rfl (Nat.le_of_ble_eq_true rfl) ⟨Nat.zero_le _, Nat.zero_le _⟩ d_M_mean_II_46 ?_
      refine lv_topl (fun v24 e24 => ?_)
      refine lv_lstore (lv' := [(10, .long v24), (8, .long v23), (7, .int (5 : Int32)), (5, .long v22), (3, .long v21), (0, .ref (ad 0)), (1, .int x1), (2, .int x2)]) hx hb d_M_mean_II_49 hl (by decide) rfl (fun ls hl => ?_)
      refine lv_lload_n hx hb d_M_mean_II_51 rfl (lv_at hl 4 rfl) ?_
      refine lv_lload hx hb d_M_mean_II_52 (lv_at hl 0 rfl) ?_
      refine lv_iconst (v := 0) hx hb d_M_mean_II_54 (by decide) ?_
      refine lv_iload hx hb d_M_mean_II_55 (lv_at hl 2 rfl) ?_
      refine lv_i2l hx hb d_M_mean_II_57 rfl ?_
      refine lv_iconst (v := 0) hx hb d_M_mean_II_58 (by decide) ?_
      refine lv_iconst (v := 0) hx hb d_M_mean_II_59 (by decide) ?_
      refine pu_l (As := [.int (0 : Int32), .long ((5 : Int32).toInt64), .int (0 : Int32), .int (0 : Int32)]) (rest := [.long v24, .long v21]) ⟨hx, hb, hml, hown, hts⟩ (c_M_exact_ZJII l _ t0 t1 t2 (0 : Int32) ((5 : Int32).toInt64) (0 : Int32) (0 : Int32) (in_of (by decide) (by decide))) (pr_pre (hx_R hRT G)) (gw_call (k := 4) hts tw_536 tw_537 tw_4 tw_538 (by decide +kernel) rfl rfl ⟨Nat.le_of_ble_eq_true rfl, Nat.le_of_ble_eq_true rfl⟩) rfl hl.1 rfl (Nat.le_of_ble_eq_true rfl) ⟨Nat.zero_le _, Nat.zero_le _⟩ d_M_mean_II_60 ?_
      refine lv_ldc2 (v := (4607182418800017408 : Int64)) hx hb hown (hts _ (gm tw_700)) d_M_mean_II_63 ?_
      refine pu_l (As := [.long (f_M_exact_ZJII (0 : Int32) ((5 : Int32).toInt64) (0 : Int32) (0 : Int32)), .long (4607182418800017408 : Int64)]) (rest := [.long v24, .long v21]) ⟨hx, hb, hml, hown, hts⟩ (c_M_add_JJ l _ t0 t1 t2 (f_M_exact_ZJII (0 : Int32) ((5 : Int32).toInt64) (0 : Int32) (0 : Int32)) (4607182418800017408 : Int64)) (pr_pre (hx_R hRT G)) (gw_call (k := 2) hts tw_611 tw_612 tw_4 tw_613 (by decide +kernel) rfl rfl ⟨Nat.le_of_ble_eq_true rfl, Nat.le_of_ble_eq_true rfl⟩) rfl hl.1 rfl (Nat.le_of_ble_eq_true rfl) ⟨Nat.zero_le _, Nat.zero_le _⟩ d_M_mean_II_66 ?_
      refine pu_l (As := [.long v24, .long (f_M_add_JJ (f_M_exact_ZJII (0 : Int32) ((5 : Int32).toInt64) (0 : Int32) (0 : Int32)) (4607182418800017408 : Int64))]) (rest := [.long v21]) ⟨hx, hb, hml, hown, hts⟩ (c_M_divide_JJ l _ t0 t1 t2 v24 (f_M_add_JJ (f_M_exact_ZJII (0 : Int32) ((5 : Int32).toInt64) (0 : Int32) (0 : Int32)) (4607182418800017408 : Int64))) (pr_pre (hx_R hRT G)) (gw_call (k := 2) hts tw_624 tw_625 tw_4 tw_626 (by decide +kernel) rfl rfl ⟨Nat.le_of_ble_eq_true rfl, Nat.le_of_ble_eq_true rfl⟩) rfl hl.1 rfl (Nat.le_of_ble_eq_true rfl) ⟨Nat.zero_le _, Nat.zero_le _⟩ d_M_mean_II_69 ?_
      refine pu_l (As := [.long v21, .long (f_M_divide_JJ v24 (f_M_add_JJ (f_M_exact_ZJII (0 : Int32) ((5 : Int32).toInt64) (0 : Int32) (0 : Int32)) (4607182418800017408 : Int64)))]) (rest := []) ⟨hx, hb, hml, hown, hts⟩ (c_M_add_JJ l _ t0 t1 t2 v21 (f_M_divide_JJ v24 (f_M_add_JJ (f_M_exact_ZJII (0 : Int32) ((5 : Int32).toInt64) (0 : Int32) (0 : Int32)) (4607182418800017408 : Int64)))) (pr_pre (hx_R hRT G)) (gw_call (k := 2) hts tw_611 tw_612 tw_4 tw_613 (by decide +kernel) rfl rfl ⟨Nat.le_of_ble_eq_true rfl, Nat.le_of_ble_eq_true rfl⟩) rfl hl.1 rfl (Nat.le_of_ble_eq_true rfl) ⟨Nat.zero_le _, Nat.zero_le _⟩ d_M_mean_II_72 ?_
      refine lv_topl (fun v25 e25 => ?_)
      refine lv_lstore_n (lv' := [(3, .long v25), (10, .long v24), (8, .long v23), (7, .int (5 : Int32)), (5, .long v22), (0, .ref (ad 0)), (1, .int x1), (2, .int x2)]) hx hb d_M_mean_II_75 rfl hl (by decide) rfl (fun ls hl => ?_)
      refine lv_lload hx hb d_M_mean_II_76 (lv_at hl 4 rfl) ?_
      refine lv_lload hx hb d_M_mean_II_78 (lv_at hl 1 rfl) ?_
      refine lv_lload hx hb d_M_mean_II_80 (lv_at hl 2 rfl) ?_
      refine lv_lload_n hx hb d_M_mean_II_82 rfl (lv_at hl 0 rfl) ?_
      refine pu_l (As := [.long v23, .long v25]) (rest := [.long v24, .long v22]) ⟨hx, hb, hml, hown, hts⟩ (c_M_subtract_JJ l _ t0 t1 t2 v23 v25) (pr_pre (hx_R hRT G)) (gw_call (k := 2) hts tw_588 tw_589 tw_4 tw_590 (by decide +kernel) rfl rfl ⟨Nat.le_of_ble_eq_true rfl, Nat.le_of_ble_eq_true rfl⟩) rfl hl.1 rfl (Nat.le_of_ble_eq_true rfl) ⟨Nat.zero_le _, Nat.zero_le _⟩ d_M_mean_II_83 ?_
      refine pu_l (As := [.long v24, .long (f_M_subtract_JJ v23 v25)]) (rest := [.long v22]) ⟨hx, hb, hml, hown, hts⟩ (c_M_multiply_JJ l _ t0 t1 t2 v24 (f_M_subtract_JJ v23 v25)) (pr_pre (hx_R hRT G)) (gw_call (k := 2) hts tw_573 tw_574 tw_4 tw_575 (by decide +kernel) rfl rfl ⟨Nat.le_of_ble_eq_true rfl, Nat.le_of_ble_eq_true rfl⟩) rfl hl.1 rfl (Nat.le_of_ble_eq_true rfl) ⟨Nat.zero_le _, Nat.zero_le _⟩ d_M_mean_II_86 ?_
      refine pu_l (As := [.long v22, .long (f_M_multiply_JJ v24 (f_M_subtract_JJ v23 v25))]) (rest := []) ⟨hx, hb, hml, hown, hts⟩ (c_M_add_JJ l _ t0 t1 t2 v22 (f_M_multiply_JJ v24 (f_M_subtract_JJ v23 v25))) (pr_pre (hx_R hRT G)) (gw_call (k := 2) hts tw_611 tw_612 tw_4 tw_613 (by decide +kernel) rfl rfl ⟨Nat.le_of_ble_eq_true rfl, Nat.le_of_ble_eq_true rfl⟩) rfl hl.1 rfl (Nat.le_of_ble_eq_true rfl) ⟨Nat.zero_le _, Nat.zero_le _⟩ d_M_mean_II_89 ?_
      refine lv_topl (fun v26 e26 => ?_)
      refine lv_lstore (lv' := [(5, .long v26), (3, .long v25), (10, .long v24), (8, .long v23), (7, .int (5 : Int32)), (0, .ref (ad 0)), (1, .int x1), (2, .int x2)]) hx hb d_M_mean_II_92 hl (by decide) rfl (fun ls hl => ?_)
      refine lv_iinc (v := (6 : Int32)) (lv' := [(7, .int (6 : Int32)), (5, .long v26), (3, .long v25), (10, .long v24), (8, .long v23), (0, .ref (ad 0)), (1, .int x1), (2, .int x2)]) hx hb d_M_mean_II_94 hl (k := 4) rfl (by decide) (by decide) rfl (fun ls hl => ?_)
      refine lv_goto (tgt := 27) hx hb d_M_mean_II_97 (by decide) ?_
      refine lv_iload hx hb d_M_mean_II_27 (lv_at hl 0 rfl) ?_
      refine lv_bipush (v := (8 : Int32)) hx hb d_M_mean_II_29 (by decide) ?_
      refine lv_icmp_ge (tgt := 100) hx hb d_M_mean_II_31 (by decide) (fun c0 => absurd c0 (by decide)) (fun _ => ?_)
      refine lv_aload_n hx hb d_M_mean_II_34 rfl (lv_at hl 5 rfl) ?_
      refine lv_iload hx hb d_M_mean_II_35 (lv_at hl 0 rfl) ?_
      refine lv_iload_n hx hb d_M_mean_II_37 rfl (lv_at hl 6 rfl) ?_
      refine hg_cl (As := [.int (6 : Int32), .int x1]) (rest := []) ⟨hx, hb, hml, hown, hts⟩ (c_M_number_II l dC dI ad cJ cI t0 t1 t2 S (6 : Int32) x1 (in_of (by decide) (by decide)) _) (gw_callV (k := 2) hts tw_643 tw_645 tp_14 tw_4 tw_646 (by decide +kernel) rfl rfl ⟨Nat.le_of_ble_eq_true rfl, Nat.le_of_ble_eq_true rfl⟩) hK G hA (hx_M hRT G hA) 3 0 rfl rfl rfl hl.1 rfl (Nat.le_of_ble_eq_true rfl) ⟨Nat.zero_le _, Nat.zero_le _⟩ d_M_mean_II_38 (fun H locs G => ?_)
      refine lv_topl (fun v27 e27 => ?_)
      refine lv_lstore (lv' := [(8, .long v27), (7, .int (6 : Int32)), (5, .long v26), (3, .long v25), (10, .long v24), (0, .ref (ad 0)), (1, .int x1), (2, .int x2)]) hx hb d_M_mean_II_41 hl (by decide) rfl (fun ls hl => ?_)
      refine lv_lload hx hb d_M_mean_II_43 (lv_at hl 0 rfl) ?_
      refine lv_lload_n hx hb d_M_mean_II_45 rfl (lv_at hl 3 rfl) ?_
      refine pu_l (As := [.long v27, .long v25]) (rest := []) ⟨hx, hb, hml, hown, hts⟩ (c_M_subtract_JJ l _ t0 t1 t2 v27 v25) (pr_pre (hx_R hRT G)) (gw_call (k := 2) hts tw_588 tw_589 tw_4 tw_590 (by decide +kernel) rfl rfl ⟨Nat.le_of_ble_eq_true rfl, Nat.le_of_ble_eq_true rfl⟩) rfl hl.1 rfl (Nat.le_of_ble_eq_true rfl) ⟨Nat.zero_le _, Nat.zero_le _⟩ d_M_mean_II_46 ?_
      refine lv_topl (fun v28 e28 => ?_)
      refine lv_lstore (lv' := [(10, .long v28), (8, .long v27), (7, .int (6 : Int32)), (5, .long v26), (3, .long v25), (0, .ref (ad 0)), (1, .int x1), (2, .int x2)]) hx hb d_M_mean_II_49 hl (by decide) rfl (fun ls hl => ?_)
      refine lv_lload_n hx hb d_M_mean_II_51 rfl (lv_at hl 4 rfl) ?_
      refine lv_lload hx hb d_M_mean_II_52 (lv_at hl 0 rfl) ?_
      refine lv_iconst (v := 0) hx hb d_M_mean_II_54 (by decide) ?_
      refine lv_iload hx hb d_M_mean_II_55 (lv_at hl 2 rfl) ?_
      refine lv_i2l hx hb d_M_mean_II_57 rfl ?_
      refine lv_iconst (v := 0) hx hb d_M_mean_II_58 (by decide) ?_
      refine lv_iconst (v := 0) hx hb d_M_mean_II_59 (by decide) ?_
      refine pu_l (As := [.int (0 : Int32), .long ((6 : Int32).toInt64), .int (0 : Int32), .int (0 : Int32)]) (rest := [.long v28, .long v25]) ⟨hx, hb, hml, hown, hts⟩ (c_M_exact_ZJII l _ t0 t1 t2 (0 : Int32) ((6 : Int32).toInt64) (0 : Int32) (0 : Int32) (in_of (by decide) (by decide))) (pr_pre (hx_R hRT G)) (gw_call (k := 4) hts tw_536 tw_537 tw_4 tw_538 (by decide +kernel) rfl rfl ⟨Nat.le_of_ble_eq_true rfl, Nat.le_of_ble_eq_true rfl⟩) rfl hl.1 rfl (Nat.le_of_ble_eq_true rfl) ⟨Nat.zero_le _, Nat.zero_le _⟩ d_M_mean_II_60 ?_
      refine lv_ldc2 (v := (4607182418800017408 : Int64)) hx hb hown (hts _ (gm tw_700)) d_M_mean_II_63 ?_
      refine pu_l (As := [.long (f_M_exact_ZJII (0 : Int32) ((6 : Int32).toInt64) (0 : Int32) (0 : Int32)), .long (4607182418800017408 : Int64)]) (rest := [.long v28, .long v25]) ⟨hx, hb, hml, hown, hts⟩ (c_M_add_JJ l _ t0 t1 t2 (f_M_exact_ZJII (0 : Int32) ((6 : Int32).toInt64) (0 : Int32) (0 : Int32)) (4607182418800017408 : Int64)) (pr_pre (hx_R hRT G)) (gw_call (k := 2) hts tw_611 tw_612 tw_4 tw_613 (by decide +kernel) rfl rfl ⟨Nat.le_of_ble_eq_true rfl, Nat.le_of_ble_eq_true rfl⟩) rfl hl.1 rfl (Nat.le_of_ble_eq_true rfl) ⟨Nat.zero_le _, Nat.zero_le _⟩ d_M_mean_II_66 ?_
      refine pu_l (As := [.long v28, .long (f_M_add_JJ (f_M_exact_ZJII (0 : Int32) ((6 : Int32).toInt64) (0 : Int32) (0 : Int32)) (4607182418800017408 : Int64))]) (rest := [.long v25]) ⟨hx, hb, hml, hown, hts⟩ (c_M_divide_JJ l _ t0 t1 t2 v28 (f_M_add_JJ (f_M_exact_ZJII (0 : Int32) ((6 : Int32).toInt64) (0 : Int32) (0 : Int32)) (4607182418800017408 : Int64))) (pr_pre (hx_R hRT G)) (gw_call (k := 2) hts tw_624 tw_625 tw_4 tw_626 (by decide +kernel) rfl rfl ⟨Nat.le_of_ble_eq_true rfl, Nat.le_of_ble_eq_true rfl⟩) rfl hl.1 rfl (Nat.le_of_ble_eq_true rfl) ⟨Nat.zero_le _, Nat.zero_le _⟩ d_M_mean_II_69 ?_
      refine pu_l (As := [.long v25, .long (f_M_divide_JJ v28 (f_M_add_JJ (f_M_exact_ZJII (0 : Int32) ((6 : Int32).toInt64) (0 : Int32) (0 : Int32)) (4607182418800017408 : Int64)))]) (rest := []) ⟨hx, hb, hml, hown, hts⟩ (c_M_add_JJ l _ t0 t1 t2 v25 (f_M_divide_JJ v28 (f_M_add_JJ (f_M_exact_ZJII (0 : Int32) ((6 : Int32).toInt64) (0 : Int32) (0 : Int32)) (4607182418800017408 : Int64)))) (pr_pre (hx_R hRT G)) (gw_call (k := 2) hts tw_611 tw_612 tw_4 tw_613 (by decide +kernel) rfl rfl ⟨Nat.le_of_ble_eq_true rfl, Nat.le_of_ble_eq_true rfl⟩) rfl hl.1 rfl (Nat.le_of_ble_eq_true rfl) ⟨Nat.zero_le _, Nat.zero_le _⟩ d_M_mean_II_72 ?_
      refine lv_topl (fun v29 e29 => ?_)
      refine lv_lstore_n (lv' := [(3, .long v29), (10, .long v28), (8, .long v27), (7, .int (6 : Int32)), (5, .long v26), (0, .ref (ad 0)), (1, .int x1), (2, .int x2)]) hx hb d_M_mean_II_75 rfl hl (by decide) rfl (fun ls hl => ?_)
      refine lv_lload hx hb d_M_mean_II_76 (lv_at hl 4 rfl) ?_
      refine lv_lload hx hb d_M_mean_II_78 (lv_at hl 1 rfl) ?_
      refine lv_lload hx hb d_M_mean_II_80 (lv_at hl 2 rfl) ?_
      refine lv_lload_n hx hb d_M_mean_II_82 rfl (lv_at hl 0 rfl) ?_
      refine pu_l (As := [.long v27, .long v29]) (rest := [.long v28, .long v26]) ⟨hx, hb, hml, hown, hts⟩ (c_M_subtract_JJ l _ t0 t1 t2 v27 v29) (pr_pre (hx_R hRT G)) (gw_call (k := 2) hts tw_588 tw_589 tw_4 tw_590 (by decide +kernel) rfl rfl ⟨Nat.le_of_ble_eq_true rfl, Nat.le_of_ble_eq_true rfl⟩) rfl hl.1 rfl (Nat.le_of_ble_eq_true rfl) ⟨Nat.zero_le _, Nat.zero_le _⟩ d_M_mean_II_83 ?_
      refine pu_l (As := [.long v28, .long (f_M_subtract_JJ v27 v29)]) (rest := [.long v26]) ⟨hx, hb, hml, hown, hts⟩ (c_M_multiply_JJ l _ t0 t1 t2 v28 (f_M_subtract_JJ v27 v29)) (pr_pre (hx_R hRT G)) (gw_call (k := 2) hts tw_573 tw_574 tw_4 tw_575 (by decide +kernel) rfl rfl ⟨Nat.le_of_ble_eq_true rfl, Nat.le_of_ble_eq_true rfl⟩) rfl hl.1 rfl (Nat.le_of_ble_eq_true rfl) ⟨Nat.zero_le _, Nat.zero_le _⟩ d_M_mean_II_86 ?_
      refine pu_l (As := [.long v26, .long (f_M_multiply_JJ v28 (f_M_subtract_JJ v27 v29))]) (rest := []) ⟨hx, hb, hml, hown, hts⟩ (c_M_add_JJ l _ t0 t1 t2 v26 (f_M_multiply_JJ v28 (f_M_subtract_JJ v27 v29))) (pr_pre (hx_R hRT G)) (gw_call (k := 2) hts tw_611 tw_612 tw_4 tw_613 (by decide +kernel) rfl rfl ⟨Nat.le_of_ble_eq_true rfl, Nat.le_of_ble_eq_true rfl⟩) rfl hl.1 rfl (Nat.le_of_ble_eq_true rfl) ⟨Nat.zero_le _, Nat.zero_le _⟩ d_M_mean_II_89 ?_
      refine lv_topl (fun v30 e30 => ?_)
      refine lv_lstore (lv' := [(5, .long v30), (3, .long v29), (10, .long v28), (8, .long v27), (7, .int (6 : Int32)), (0, .ref (ad 0)), (1, .int x1), (2, .int x2)]) hx hb d_M_mean_II_92 hl (by decide) rfl (fun ls hl => ?_)
      refine lv_iinc (v := (7 : Int32)) (lv' := [(7, .int (7 : Int32)), (5, .long v30), (3, .long v29), (10, .long v28), (8, .long v27), (0, .ref (ad 0)), (1, .int x1), (2, .int x2)]) hx hb d_M_mean_II_94 hl (k := 4) rfl (by decide) (by decide) rfl (fun ls hl => ?_)
      refine lv_goto (tgt := 27) hx hb d_M_mean_II_97 (by decide) ?_
      refine lv_iload hx hb d_M_mean_II_27 (lv_at hl 0 rfl) ?_
      refine lv_bipush (v := (8 : Int32)) hx hb d_M_mean_II_29 (by decide) ?_
      refine lv_icmp_ge (tgt := 100) hx hb d_M_mean_II_31 (by decide) (fun c0 => absurd c0 (by decide)) (fun _ => ?_)
      refine lv_aload_n hx hb d_M_mean_II_34 rfl (lv_at hl 5 rfl) ?_
      refine lv_iload hx hb d_M_mean_II_35 (lv_at hl 0 rfl) ?_
      refine lv_iload_n hx hb d_M_mean_II_37 rfl (lv_at hl 6 rfl) ?_
      refine hg_cl (As := [.int (7 : Int32), .int x1]) (rest := []) ⟨hx, hb, hml, hown, hts⟩ (c_M_number_II l dC dI ad cJ cI t0 t1 t2 S (7 : Int32) x1 (in_of (by decide) (by decide)) _) (gw_callV (k := 2) hts tw_643 tw_645 tp_14 tw_4 tw_646 (by decide +kernel) rfl rfl ⟨Nat.le_of_ble_eq_true rfl, Nat.le_of_ble_eq_true rfl⟩) hK G hA (hx_M hRT G hA) 3 0 rfl rfl rfl hl.1 rfl (Nat.le_of_ble_eq_true rfl) ⟨Nat.zero_le _, Nat.zero_le _⟩ d_M_mean_II_38 (fun H locs G => ?_)
      refine lv_topl (fun v31 e31 => ?_)
      refine lv_lstore (lv' := [(8, .long v31), (7, .int (7 : Int32)), (5, .long v30), (3, .long v29), (10, .long v28), (0, .ref (ad 0)), (1, .int x1), (2, .int x2)]) hx hb d_M_mean_II_41 hl (by decide) rfl (fun ls hl => ?_)
      refine lv_lload hx hb d_M_mean_II_43 (lv_at hl 0 rfl) ?_
      refine lv_lload_n hx hb d_M_mean_II_45 rfl (lv_at hl 3 rfl) ?_
      refine pu_l (As := [.long v31, .long v29]) (rest := []) ⟨hx, hb, hml, hown, hts⟩ (c_M_subtract_JJ l _ t0 t1 t2 v31 v29) (pr_pre (hx_R hRT G)) (gw_call (k := 2) hts tw_588 tw_589 tw_4 tw_590 (by decide +kernel) rfl rfl ⟨Nat.le_of_ble_eq_true rfl, Nat.le_of_ble_eq_true rfl⟩) rfl hl.1 rfl (Nat.le_of_ble_eq_true rfl) ⟨Nat.zero_le _, Nat.zero_le _⟩ d_M_mean_II_46 ?_
      refine lv_topl (fun v32 e32 => ?_)
      refine lv_lstore (lv' := [(10, .long v32), (8, .long v31), (7, .int (7 : Int32)), (5, .long v30), (3, .long v29), (0, .ref (ad 0)), (1, .int x1), (2, .int x2)]) hx hb d_M_mean_II_49 hl (by decide) rfl (fun ls hl => ?_)
      refine lv_lload_n hx hb d_M_mean_II_51 rfl (lv_at hl 4 rfl) ?_
      refine lv_lload hx hb d_M_mean_II_52 (lv_at hl 0 rfl) ?_
      refine lv_iconst (v := 0) hx hb d_M_mean_II_54 (by decide) ?_
      refine lv_iload hx hb d_M_mean_II_55 (lv_at hl 2 rfl) ?_
      refine lv_i2l hx hb d_M_mean_II_57 rfl ?_
      refine lv_iconst (v := 0) hx hb d_M_mean_II_58 (by decide) ?_
      refine lv_iconst (v := 0) hx hb d_M_mean_II_59 (by decide) ?_
      refine pu_l (As := [.int (0 : Int32), .long ((7 : Int32).toInt64), .int (0 : Int32), .int (0 : Int32)]) (rest := [.long v32, .long v29]) ⟨hx, hb, hml, hown, hts⟩ (c_M_exact_ZJII l _ t0 t1 t2 (0 : Int32) ((7 : Int32).toInt64) (0 : Int32) (0 : Int32) (in_of (by decide) (by decide))) (pr_pre (hx_R hRT G)) (gw_call (k := 4) hts tw_536 tw_537 tw_4 tw_538 (by decide +kernel) rfl rfl ⟨Nat.le_of_ble_eq_true rfl, Nat.le_of_ble_eq_true rfl⟩) rfl hl.1 rfl (Nat.le_of_ble_eq_true rfl) ⟨Nat.zero_le _, Nat.zero_le _⟩ d_M_mean_II_60 ?_
      refine lv_ldc2 (v := (4607182418800017408 : Int64)) hx hb hown (hts _ (gm tw_700)) d_M_mean_II_63 ?_
      refine pu_l (As := [.long (f_M_exact_ZJII (0 : Int32) ((7 : Int32).toInt64) (0 : Int32) (0 : Int32)), .long (4607182418800017408 : Int64)]) (rest := [.long v32, .long v29]) ⟨hx, hb, hml, hown, hts⟩ (c_M_add_JJ l _ t0 t1 t2 (f_M_exact_ZJII (0 : Int32) ((7 : Int32).toInt64) (0 : Int32) (0 : Int32)) (4607182418800017408 : Int64)) (pr_pre (hx_R hRT G)) (gw_call (k := 2) hts tw_611 tw_612 tw_4 tw_613 (by decide +kernel) rfl rfl ⟨Nat.le_of_ble_eq_true rfl, Nat.le_of_ble_eq_true rfl⟩) rfl hl.1 rfl (Nat.le_of_ble_eq_true rfl) ⟨Nat.zero_le _, Nat.zero_le _⟩ d_M_mean_II_66 ?_
      refine pu_l (As := [.long v32, .long (f_M_add_JJ (f_M_exact_ZJII (0 : Int32) ((7 : Int32).toInt64) (0 : Int32) (0 : Int32)) (4607182418800017408 : Int64))]) (rest := [.long v29]) ⟨hx, hb, hml, hown, hts⟩ (c_M_divide_JJ l _ t0 t1 t2 v32 (f_M_add_JJ (f_M_exact_ZJII (0 : Int32) ((7 : Int32).toInt64) (0 : Int32) (0 : Int32)) (4607182418800017408 : Int64))) (pr_pre (hx_R hRT G)) (gw_call (k := 2) hts tw_624 tw_625 tw_4 tw_626 (by decide +kernel) rfl rfl ⟨Nat.le_of_ble_eq_true rfl, Nat.le_of_ble_eq_true rfl⟩) rfl hl.1 rfl (Nat.le_of_ble_eq_true rfl) ⟨Nat.zero_le _, Nat.zero_le _⟩ d_M_mean_II_69 ?_
      refine pu_l (As := [.long v29, .long (f_M_divide_JJ v32 (f_M_add_JJ (f_M_exact_ZJII (0 : Int32) ((7 : Int32).toInt64) (0 : Int32) (0 : Int32)) (4607182418800017408 : Int64)))]) (rest := []) ⟨hx, hb, hml, hown, hts⟩ (c_M_add_JJ l _ t0 t1 t2 v29 (f_M_divide_JJ v32 (f_M_add_JJ (f_M_exact_ZJII (0 : Int32) ((7 : Int32).toInt64) (0 : Int32) (0 : Int32)) (4607182418800017408 : Int64)))) (pr_pre (hx_R hRT G)) (gw_call (k := 2) hts tw_611 tw_612 tw_4 tw_613 (by decide +kernel) rfl rfl ⟨Nat.le_of_ble_eq_true rfl, Nat.le_of_ble_eq_true rfl⟩) rfl hl.1 rfl (Nat.le_of_ble_eq_true rfl) ⟨Nat.zero_le _, Nat.zero_le _⟩ d_M_mean_II_72 ?_
      refine lv_topl (fun v33 e33 => ?_)
      refine lv_lstore_n (lv' := [(3, .long v33), (10, .long v32), (8, .long v31), (7, .int (7 : Int32)), (5, .long v30), (0, .ref (ad 0)), (1, .int x1), (2, .int x2)]) hx hb d_M_mean_II_75 rfl hl (by decide) rfl (fun ls hl => ?_)
      refine lv_lload hx hb d_M_mean_II_76 (lv_at hl 4 rfl) ?_
      refine lv_lload hx hb d_M_mean_II_78 (lv_at hl 1 rfl) ?_
      refine lv_lload hx hb d_M_mean_II_80 (lv_at hl 2 rfl) ?_
      refine lv_lload_n hx hb d_M_mean_II_82 rfl (lv_at hl 0 rfl) ?_
      refine pu_l (As := [.long v31, .long v33]) (rest := [.long v32, .long v30]) ⟨hx, hb, hml, hown, hts⟩ (c_M_subtract_JJ l _ t0 t1 t2 v31 v33) (pr_pre (hx_R hRT G)) (gw_call (k := 2) hts tw_588 tw_589 tw_4 tw_590 (by decide +kernel) rfl rfl ⟨Nat.le_of_ble_eq_true rfl, Nat.le_of_ble_eq_true rfl⟩) rfl hl.1 rfl (Nat.le_of_ble_eq_true rfl) ⟨Nat.zero_le _, Nat.zero_le _⟩ d_M_mean_II_83 ?_
      refine pu_l (As := [.long v32, .long (f_M_subtract_JJ v31 v33)]) (rest := [.long v30]) ⟨hx, hb, hml, hown, hts⟩ (c_M_multiply_JJ l _ t0 t1 t2 v32 (f_M_subtract_JJ v31 v33)) (pr_pre (hx_R hRT G)) (gw_call (k := 2) hts tw_573 tw_574 tw_4 tw_575 (by decide +kernel) rfl rfl ⟨Nat.le_of_ble_eq_true rfl, Nat.le_of_ble_eq_true rfl⟩) rfl hl.1 rfl (Nat.le_of_ble_eq_true rfl) ⟨Nat.zero_le _, Nat.zero_le _⟩ d_M_mean_II_86 ?_
      refine pu_l (As := [.long v30, .long (f_M_multiply_JJ v32 (f_M_subtract_JJ v31 v33))]) (rest := []) ⟨hx, hb, hml, hown, hts⟩ (c_M_add_JJ l _ t0 t1 t2 v30 (f_M_multiply_JJ v32 (f_M_subtract_JJ v31 v33))) (pr_pre (hx_R hRT G)) (gw_call (k := 2) hts tw_611 tw_612 tw_4 tw_613 (by decide +kernel) rfl rfl ⟨Nat.le_of_ble_eq_true rfl, Nat.le_of_ble_eq_true rfl⟩) rfl hl.1 rfl (Nat.le_of_ble_eq_true rfl) ⟨Nat.zero_le _, Nat.zero_le _⟩ d_M_mean_II_89 ?_
      refine lv_topl (fun v34 e34 => ?_)
      refine lv_lstore (lv' := [(5, .long v34), (3, .long v33), (10, .long v32), (8, .long v31), (7, .int (7 : Int32)), (0, .ref (ad 0)), (1, .int x1), (2, .int x2)]) hx hb d_M_mean_II_92 hl (by decide) rfl (fun ls hl => ?_)
      refine lv_iinc (v := (8 : Int32)) (lv' := [(7, .int (8 : Int32)), (5, .long v34), (3, .long v33), (10, .long v32), (8, .long v31), (0, .ref (ad 0)), (1, .int x1), (2, .int x2)]) hx hb d_M_mean_II_94 hl (k := 4) rfl (by decide) (by decide) rfl (fun ls hl => ?_)
      refine lv_goto (tgt := 27) hx hb d_M_mean_II_97 (by decide) ?_
      refine lv_iload hx hb d_M_mean_II_27 (lv_at hl 0 rfl) ?_
      refine lv_bipush (v := (8 : Int32)) hx hb d_M_mean_II_29 (by decide) ?_
      refine lv_icmp_ge (tgt := 100) hx hb d_M_mean_II_31 (by decide) (fun _ => ?_) (fun c0 => absurd c0 (by decide))
      refine lv_iload_n hx hb d_M_mean_II_100 rfl (lv_at hl 7 rfl) ?_
      refine lv_if_ne (tgt := 108) hx hb d_M_mean_II_101 (by decide) (fun c35 => ?_) (fun c35 => ?_)
      · refine lv_lload hx hb d_M_mean_II_108 (lv_at hl 1 rfl) ?_
        refine pu_l (As := [.long v34]) (rest := []) ⟨hx, hb, hml, hown, hts⟩ (c_M_told_J l _ v34) pu_pre (gw_call (k := 1) hts tw_647 tw_648 tw_4 tw_649 (by decide +kernel) rfl rfl ⟨Nat.le_of_ble_eq_true rfl, Nat.le_of_ble_eq_true rfl⟩) rfl hl.1 rfl (Nat.le_of_ble_eq_true rfl) ⟨Nat.zero_le _, Nat.zero_le _⟩ d_M_mean_II_110 ?_
        exact hg_lret hx hb hr hlocks hK hAe G (by have e9 : f_M_mean_II S x1 x2 = f_M_told_J v34 := (by have qe3 := e3.symm; have qe4 := e4.symm; have qe5 := e5.symm; have qe6 := e6.symm; have qe7 := e7.symm; have qe8 := e8.symm; have qe9 := e9.symm; have qe10 := e10.symm; have qe11 := e11.symm; have qe12 := e12.symm; have qe13 := e13.symm; have qe14 := e14.symm; have qe15 := e15.symm; have qe16 := e16.symm; have qe17 := e17.symm; have qe18 := e18.symm; have qe19 := e19.symm; have qe20 := e20.symm; have qe21 := e21.symm; have qe22 := e22.symm; have qe23 := e23.symm; have qe24 := e24.symm; have qe25 := e25.symm; have qe26 := e26.symm; have qe27 := e27.symm; have qe28 := e28.symm; have qe29 := e29.symm; have qe30 := e30.symm; have qe31 := e31.symm; have qe32 := e32.symm; have qe33 := e33.symm; have qe34 := e34.symm; subst qe3 qe4 qe5 qe6 qe7 qe8 qe9 qe10 qe11 qe12 qe13 qe14 qe15 qe16 qe17 qe18 qe19 qe20 qe21 qe22 qe23 qe24 qe25 qe26 qe27 qe28 qe29 qe30 qe31 qe32 qe33 qe34; exact (Eq.trans (if_neg c1) (Eq.trans (if_neg c2) (if_neg c35)))); exact ⟨Eq.symm e9, rfl⟩) d_M_mean_II_113
      · refine lv_lload_n hx hb d_M_mean_II_104 rfl (lv_at hl 2 rfl) ?_
        refine lv_goto (tgt := 110) hx hb d_M_mean_II_105 (by decide) ?_
        refine pu_l (As := [.long v33]) (rest := []) ⟨hx, hb, hml, hown, hts⟩ (c_M_told_J l _ v33) pu_pre (gw_call (k := 1) hts tw_647 tw_648 tw_4 tw_649 (by decide +kernel) rfl rfl ⟨Nat.le_of_ble_eq_true rfl, Nat.le_of_ble_eq_true rfl⟩) rfl hl.1 rfl (Nat.le_of_ble_eq_true rfl) ⟨Nat.zero_le _, Nat.zero_le _⟩ d_M_mean_II_110 ?_
        exact hg_lret hx hb hr hlocks hK hAe G (by have e9 : f_M_mean_II S x1 x2 = f_M_told_J v33 := (by have qe3 := e3.symm; have qe4 := e4.symm; have qe5 := e5.symm; have qe6 := e6.symm; have qe7 := e7.symm; have qe8 := e8.symm; have qe9 := e9.symm; have qe10 := e10.symm; have qe11 := e11.symm; have qe12 := e12.symm; have qe13 := e13.symm; have qe14 := e14.symm; have qe15 := e15.symm; have qe16 := e16.symm; have qe17 := e17.symm; have qe18 := e18.symm; have qe19 := e19.symm; have qe20 := e20.symm; have qe21 := e21.symm; have qe22 := e22.symm; have qe23 := e23.symm; have qe24 := e24.symm; have qe25 := e25.symm; have qe26 := e26.symm; have qe27 := e27.symm; have qe28 := e28.symm; have qe29 := e29.symm; have qe30 := e30.symm; have qe31 := e31.symm; have qe32 := e32.symm; have qe33 := e33.symm; have qe34 := e34.symm; subst qe3 qe4 qe5 qe6 qe7 qe8 qe9 qe10 qe11 qe12 qe13 qe14 qe15 qe16 qe17 qe18 qe19 qe20 qe21 qe22 qe23 qe24 qe25 qe26 qe27 qe28 qe29 qe30 qe31 qe32 qe33 qe34; exact (Eq.trans (if_neg c1) (Eq.trans (if_neg c2) (if_pos c35)))); exact ⟨Eq.symm e9, rfl⟩) d_M_mean_II_113
    · refine lv_lconst (v := (1 : Int64)) hx hb d_M_mean_II_17 (by decide) ?_
      exact hg_lret hx hb hr hlocks hK hAe G (by have e9 : f_M_mean_II S x1 x2 = (1 : Int64) := (by exact (Eq.trans (if_neg c1) (if_pos c2))); exact ⟨Eq.symm e9, rfl⟩) d_M_mean_II_18
