-- ===== MotionLabModel.horner(I)J 
abbrev y_M_horner_I : MethodName := ⟨"MotionLabModel", "horner", "(I)J"⟩
abbrev b_M_horner_I : ByteArray := prog_6_method_58_code
theorem d_M_horner_I_0 : decode b_M_horner_I 0 = .ok (.iload_n 1, 1) := by decide +kernel
theorem d_M_horner_I_1 : decode b_M_horner_I 1 = .ok (.bipush 8, 2) := by decide +kernel
theorem d_M_horner_I_3 : decode b_M_horner_I 3 = .ok (.invokestatic 190, 3) := by decide +kernel
theorem d_M_horner_I_6 : decode b_M_horner_I 6 = .ok (.ifCond .ne 5, 3) := by decide +kernel
theorem d_M_horner_I_9 : decode b_M_horner_I 9 = .ok (.lconst 1, 1) := by decide +kernel
theorem d_M_horner_I_10 : decode b_M_horner_I 10 = .ok (.lreturn, 1) := by decide +kernel
theorem d_M_horner_I_11 : decode b_M_horner_I 11 = .ok (.aload_n 0, 1) := by decide +kernel
theorem d_M_horner_I_12 : decode b_M_horner_I 12 = .ok (.getfield 187, 3) := by decide +kernel
theorem d_M_horner_I_15 : decode b_M_horner_I 15 = .ok (.bipush 7, 2) := by decide +kernel
theorem d_M_horner_I_17 : decode b_M_horner_I 17 = .ok (.laload, 1) := by decide +kernel
theorem d_M_horner_I_18 : decode b_M_horner_I 18 = .ok (.lstore_n 2, 1) := by decide +kernel
theorem d_M_horner_I_19 : decode b_M_horner_I 19 = .ok (.bipush 6, 2) := by decide +kernel
theorem d_M_horner_I_21 : decode b_M_horner_I 21 = .ok (.istore 4, 2) := by decide +kernel
theorem d_M_horner_I_23 : decode b_M_horner_I 23 = .ok (.iload 4, 2) := by decide +kernel
theorem d_M_horner_I_25 : decode b_M_horner_I 25 = .ok (.ifCond .lt 30, 3) := by decide +kernel
theorem d_M_horner_I_28 : decode b_M_horner_I 28 = .ok (.lload_n 2, 1) := by decide +kernel
theorem d_M_horner_I_29 : decode b_M_horner_I 29 = .ok (.aload_n 0, 1) := by decide +kernel
theorem d_M_horner_I_30 : decode b_M_horner_I 30 = .ok (.getfield 187, 3) := by decide +kernel
theorem d_M_horner_I_33 : decode b_M_horner_I 33 = .ok (.iload_n 1, 1) := by decide +kernel
theorem d_M_horner_I_34 : decode b_M_horner_I 34 = .ok (.laload, 1) := by decide +kernel
theorem d_M_horner_I_35 : decode b_M_horner_I 35 = .ok (.invokestatic 216, 3) := by decide +kernel
theorem d_M_horner_I_38 : decode b_M_horner_I 38 = .ok (.aload_n 0, 1) := by decide +kernel
theorem d_M_horner_I_39 : decode b_M_horner_I 39 = .ok (.getfield 187, 3) := by decide +kernel
theorem d_M_horner_I_42 : decode b_M_horner_I 42 = .ok (.iload 4, 2) := by decide +kernel
theorem d_M_horner_I_44 : decode b_M_horner_I 44 = .ok (.laload, 1) := by decide +kernel
theorem d_M_horner_I_45 : decode b_M_horner_I 45 = .ok (.invokestatic 123, 3) := by decide +kernel
theorem d_M_horner_I_48 : decode b_M_horner_I 48 = .ok (.lstore_n 2, 1) := by decide +kernel
theorem d_M_horner_I_49 : decode b_M_horner_I 49 = .ok (.iinc 4 (-1), 3) := by decide +kernel
theorem d_M_horner_I_52 : decode b_M_horner_I 52 = .ok (.goto (-29), 3) := by decide +kernel
theorem d_M_horner_I_55 : decode b_M_horner_I 55 = .ok (.lload_n 2, 1) := by decide +kernel
theorem d_M_horner_I_56 : decode b_M_horner_I 56 = .ok (.invokestatic 251, 3) := by decide +kernel
theorem d_M_horner_I_59 : decode b_M_horner_I 59 = .ok (.lreturn, 1) := by decide +kernel
def f_M_horner_I (S : MS) (x1 : Int32) : Int64 :=
  if (f_M_in_II x1 (8 : Int32)) = 0 then
    (1 : Int64)
  else
    let v2 : Int64 := m_store S (7 : Int32).toNatClampNeg
    let v3 : Int64 := f_M_add_JJ (f_M_multiply_JJ v2 (m_store S x1.toNatClampNeg)) (m_store S (6 : Int32).toNatClampNeg)
    let v4 : Int64 := f_M_add_JJ (f_M_multiply_JJ v3 (m_store S x1.toNatClampNeg)) (m_store S (5 : Int32).toNatClampNeg)
    let v5 : Int64 := f_M_add_JJ (f_M_multiply_JJ v4 (m_store S x1.toNatClampNeg)) (m_store S (4 : Int32).toNatClampNeg)
    let v6 : Int64 := f_M_add_JJ (f_M_multiply_JJ v5 (m_store S x1.toNatClampNeg)) (m_store S (3 : Int32).toNatClampNeg)
    let v7 : Int64 := f_M_add_JJ (f_M_multiply_JJ v6 (m_store S x1.toNatClampNeg)) (m_store S (2 : Int32).toNatClampNeg)
    let v8 : Int64 := f_M_add_JJ (f_M_multiply_JJ v7 (m_store S x1.toNatClampNeg)) (m_store S (1 : Int32).toNatClampNeg)
    let v9 : Int64 := f_M_add_JJ (f_M_multiply_JJ v8 (m_store S x1.toNatClampNeg)) (m_store S (0 : Int32).toNatClampNeg)
    f_M_told_J v9
set_option maxHeartbeats 2000000 in
set_option maxRecDepth 100000 in
theorem c_M_horner_I (l : Launch) (dC : Nat → ClassId) (dI : Nat → Nat → Nat) (ad : Nat → Nat) (cJ cI : ClassId) (t0 t1 t2 : Nat) (S : MS) (x1 : Int32) (sz : Nat) : hMl l y_M_horner_I (gw y_M_horner_I b_M_horner_I 5 (some .long)) { frames := 6, cells := 0, slots := 0, locals := 168 } [.ref (ad 0), .int x1] (dC, dI) classes (tysJI cJ cI) (hE_M t0 t1 t2 (mW ad cJ cI S) sz) (mW ad cJ cI S) sz (f_M_horner_I S x1) (mW ad cJ cI S) := by
  refine Met.ofW (cc := b_M_horner_I) (maxL := 5) (ret := (some .long)) (by decide) rfl ?_
  intro p e s m args below meth c s₁ B hml hv
  obtain ⟨rfl, hsz, hP, hK, hD0, hRT⟩ := hv
  have hx := B.exec
  have hb := B.bytes
  have hr := B.returns
  have hts := atoms_spec (ws := (gw y_M_horner_I b_M_horner_I 5 (some .long))) B.pre
  have hown : s.vm.findClass "MotionLabModel" = some m.cls := findClass_of_methodNamed B.named
  have hlocks := B.notSynchronized
  subst hsz
  have hD := hD0.self (sz := s.heap.size)
  have hRT : RTA t0 t1 t2 (va_A (mW ad cJ cI S) s.heap.size) s s.heap := hRT
  generalize hAe : va_A (mW ad cJ cI S) s.heap.size = A at hD hRT
  have hA : ∀ q : Nat, s.heap.size ≤ q → A q := fun q h => by rw [← hAe]; exact Or.inr h
  have G : hG (dC, dI) classes A s.heap (mW ad cJ cI S) s.heap [] := ⟨hP, hD, va_S.rf⟩
  have hl := lv_entry ([.ref (ad 0), .int x1]) (n := 5) (Nat.le_of_ble_eq_true rfl)
  rw [lg_entry_eq]
  generalize (lg_sl ([.ref (ad 0), .int x1]) ++ List.replicate (5 - (lg_sl ([.ref (ad 0), .int x1])).length) Slot.unset).toArray = ls at hl ⊢
  have hl : lv_has ls 5 [(0, .ref (ad 0)), (1, .int x1)] := hl
  refine lv_iload_n hx hb d_M_horner_I_0 rfl (lv_at hl 1 rfl) ?_
  refine lv_bipush (v := (8 : Int32)) hx hb d_M_horner_I_1 (by decide) ?_
  refine pu_i (As := [.int x1, .int (8 : Int32)]) (rest := []) ⟨hx, hb, hml, hown, hts⟩ (c_M_in_II l _ x1 (8 : Int32)) pu_pre (gw_call (k := 2) hts tw_489 tw_490 tw_4 tw_491 (by decide +kernel) rfl rfl ⟨Nat.le_of_ble_eq_true rfl, Nat.le_of_ble_eq_true rfl⟩) rfl hl.1 rfl (Nat.le_of_ble_eq_true rfl) ⟨Nat.zero_le _, Nat.zero_le _⟩ d_M_horner_I_3 ?_
  refine lv_if_ne (tgt := 11) hx hb d_M_horner_I_6 (by decide) (fun c1 => ?_) (fun c1 => ?_)
  · refine lv_aload_n hx hb d_M_horner_I_11 rfl (lv_at hl 0 rfl) ?_
    refine va_get (D := (dC, dI)) (ci := 3) (v := .ref (ad 14)) (C := R_M) (T := F_M) (N := 21) hx hb hts (fun w h => gm (i_M w h)) hown hK G.1 0 rfl rfl 20 (by decide) (hts _ (gm tw_441)) (fun _ h9 => h9) rfl d_M_horner_I_12 ?_
    refine lv_bipush (v := (7 : Int32)) hx hb d_M_horner_I_15 (by decide) ?_
    refine va_lald hx hb hK G.1 14 0 rfl rfl (in_of (by decide) (by decide)) d_M_horner_I_17 ?_
    refine lv_topl (fun v2 e2 => ?_)
    refine lv_lstore_n (lv' := [(2, .long v2), (0, .ref (ad 0)), (1, .int x1)]) hx hb d_M_horner_I_18 rfl hl (by decide) rfl (fun ls hl => ?_)
    refine lv_bipush (v := (6 : Int32)) hx hb d_M_horner_I_19 (by decide) ?_
    refine lv_istore (lv' := [(4, .int (6 : Int32)), (2, .long v2), (0, .ref (ad 0)), (1, .int x1)]) hx hb d_M_horner_I_21 hl (by decide) rfl (fun ls hl => ?_)
    refine lv_iload hx hb d_M_horner_I_23 (lv_at hl 0 rfl) ?_
    refine lv_if_lt (tgt := 55) hx hb d_M_horner_I_25 (by decide) (fun c0 => absurd c0 (by decide)) (fun _ => ?_)
    refine lv_lload_n hx hb d_M_horner_I_28 rfl (lv_at hl 1 rfl) ?_
    refine lv_aload_n hx hb d_M_horner_I_29 rfl (lv_at hl 2 rfl) ?_
    refine va_get (D := (dC, dI)) (ci := 3) (v := .ref (ad 14)) (C := R_M) (T := F_M) (N := 21) hx hb hts (fun w h => gm (i_M w h)) hown hK G.1 0 rfl rfl 20 (by decide) (hts _ (gm tw_441)) (fun _ h9 => h9) rfl d_M_horner_I_30 ?_
    refine lv_iload_n hx hb d_M_horner_I_33 rfl (lv_at hl 3 rfl) ?_
    refine va_lald hx hb hK G.1 14 0 rfl rfl (in_in c1 (by decide) (by decide)) d_M_horner_I_34 ?_
    refine pu_l (As := [.long v2, .long (m_store S x1.toNatClampNeg)]) (rest := []) ⟨hx, hb, hml, hown, hts⟩ (c_M_multiply_JJ l _ t0 t1 t2 v2 (m_store S x1.toNatClampNeg)) (pr_pre (hx_R hRT G)) (gw_call (k := 2) hts tw_573 tw_574 tw_4 tw_575 (by decide +kernel) rfl rfl ⟨Nat.le_of_ble_eq_true rfl, Nat.le_of_ble_eq_true rfl⟩) rfl hl.1 rfl (Nat.le_of_ble_eq_true rfl) ⟨Nat.zero_le _, Nat.zero_le _⟩ d_M_horner_I_35 ?_
    refine lv_aload_n hx hb d_M_horner_I_38 rfl (lv_at hl 2 rfl) ?_
    refine va_get (D := (dC, dI)) (ci := 3) (v := .ref (ad 14)) (C := R_M) (T := F_M) (N := 21) hx hb hts (fun w h => gm (i_M w h)) hown hK G.1 0 rfl rfl 20 (by decide) (hts _ (gm tw_441)) (fun _ h9 => h9) rfl d_M_horner_I_39 ?_
    refine lv_iload hx hb d_M_horner_I_42 (lv_at hl 0 rfl) ?_
    refine va_lald hx hb hK G.1 14 0 rfl rfl (in_of (by decide) (by decide)) d_M_horner_I_44 ?_
    refine pu_l (As := [.long (f_M_multiply_JJ v2 (m_store S x1.toNatClampNeg)), .long (m_store S (6 : Int32).toNatClampNeg)]) (rest := []) ⟨hx, hb, hml, hown, hts⟩ (c_M_add_JJ l _ t0 t1 t2 (f_M_multiply_JJ v2 (m_store S x1.toNatClampNeg)) (m_store S (6 : Int32).toNatClampNeg)) (pr_pre (hx_R hRT G)) (gw_call (k := 2) hts tw_611 tw_612 tw_4 tw_613 (by decide +kernel) rfl rfl ⟨Nat.le_of_ble_eq_true rfl, Nat.le_of_ble_eq_true rfl⟩) rfl hl.1 rfl (Nat.le_of_ble_eq_true rfl) ⟨Nat.zero_le _, Nat.zero_le _⟩ d_M_horner_I_45 ?_
    refine lv_topl (fun v3 e3 => ?_)
    refine lv_lstore_n (lv' := [(2, .long v3), (4, .int (6 : Int32)), (0, .ref (ad 0)), (1, .int x1)]) hx hb d_M_horner_I_48 rfl hl (by decide) rfl (fun ls hl => ?_)
    refine lv_iinc (v := (5 : Int32)) (lv' := [(4, .int (5 : Int32)), (2, .long v3), (0, .ref (ad 0)), (1, .int x1)]) hx hb d_M_horner_I_49 hl (k := 1) rfl (by decide) (by decide) rfl (fun ls hl => ?_)
    refine lv_goto (tgt := 23) hx hb d_M_horner_I_52 (by decide) ?_
    refine lv_iload hx hb d_M_horner_I_23 (lv_at hl 0 rfl) ?_
    refine lv_if_lt (tgt := 55) hx hb d_M_horner_I_25 (by decide) (fun c0 => absurd c0 (by decide)) (fun _ => ?_)
    refine lv_lload_n hx hb d_M_horner_I_28 rfl (lv_at hl 1 rfl) ?_
    refine lv_aload_n hx hb d_M_horner_I_29 rfl (lv_at hl 2 rfl) ?_
    refine va_get (D := (dC, dI)) (ci := 3) (v := .ref (ad 14)) (C := R_M) (T := F_M) (N := 21) hx hb hts (fun w h => gm (i_M w h)) hown hK G.1 0 rfl rfl 20 (by decide) (hts _ (gm tw_441)) (fun _ h9 => h9) rfl d_M_horner_I_30 ?_
    refine lv_iload_n hx hb d_M_horner_I_33 rfl (lv_at hl 3 rfl) ?_
    refine va_lald hx hb hK G.1 14 0 rfl rfl (in_in c1 (by decide) (by decide)) d_M_horner_I_34 ?_
    refine pu_l (As := [.long v3, .long (m_store S x1.toNatClampNeg)]) (rest := []) ⟨hx, hb, hml, hown, hts⟩ (c_M_multiply_JJ l _ t0 t1 t2 v3 (m_store S x1.toNatClampNeg)) (pr_pre (hx_R hRT G)) (gw_call (k := 2) hts tw_573 tw_574 tw_4 tw_575 (by decide +kernel) rfl rfl ⟨Nat.le_of_ble_eq_true rfl, Nat.le_of_ble_eq_true rfl⟩) rfl hl.1 rfl (Nat.le_of_ble_eq_true rfl) ⟨Nat.zero_le _, Nat.zero_le _⟩ d_M_horner_I_35 ?_
    refine lv_aload_n hx hb d_M_horner_I_38 rfl (lv_at hl 2 rfl) ?_
    refine va_get (D := (dC, dI)) (ci := 3) (v := .ref (ad 14)) (C := R_M) (T := F_M) (N := 21) hx hb hts (fun w h => gm (i_M w h)) hown hK G.1 0 rfl rfl 20 (by decide) (hts _ (gm tw_441)) (fun _ h9 => h9) rfl d_M_horner_I_39 ?_
    refine lv_iload hx hb d_M_horner_I_42 (lv_at hl 0 rfl) ?_
    refine va_lald hx hb hK G.1 14 0 rfl rfl (in_of (by decide) (by decide)) d_M_horner_I_44 ?_
    refine pu_l (As := [.long (f_M_multiply_JJ v3 (m_store S x1.toNatClampNeg)), .long (m_store S (5 : Int32).toNatClampNeg)]) (rest := []) ⟨hx, hb, hml, hown, hts⟩ (c_M_add_JJ l _ t0 t1 t2 (f_M_multiply_JJ v3 (m_store S x1.toNatClampNeg)) (m_store S (5 : Int32).toNatClampNeg)) (pr_pre (hx_R hRT G)) (gw_call (k := 2) hts tw_611 tw_612 tw_4 tw_613 (by decide +kernel) rfl rfl ⟨Nat.le_of_ble_eq_true rfl, Nat.le_of_ble_eq_true rfl⟩) rfl hl.1 rfl (Nat.le_of_ble_eq_true rfl) ⟨Nat.zero_le _, Nat.zero_le _⟩ d_M_horner_I_45 ?_
    refine lv_topl (fun v4 e4 => ?_)
    refine lv_lstore_n (lv' := [(2, .long v4), (4, .int (5 : Int32)), (0, .ref (ad 0)), (1, .int x1)]) hx hb d_M_horner_I_48 rfl hl (by decide) rfl (fun ls hl => ?_)
    refine lv_iinc (v := (4 : Int32)) (lv' := [(4, .int (4 : Int32)), (2, .long v4), (0, .ref (ad 0)), (1, .int x1)]) hx hb d_M_horner_I_49 hl (k := 1) rfl (by decide) (by decide) rfl (fun ls hl => ?_)
    refine lv_goto (tgt := 23) hx hb d_M_horner_I_52 (by decide) ?_
    refine lv_iload hx hb d_M_horner_I_23 (lv_at hl 0 rfl) ?_
    refine lv_if_lt (tgt := 55) hx hb d_M_horner_I_25 (by decide) (fun c0 => absurd c0 (by decide)) (fun _ => ?_)
    refine lv_lload_n hx hb d_M_horner_I_28 rfl (lv_at hl 1 rfl) ?_
    refine lv_aload_n hx hb d_M_horner_I_29 rfl (lv_at hl 2 rfl) ?_
    refine va_get (D := (dC, dI)) (ci := 3) (v := .ref (ad 14)) (C := R_M) (T := F_M) (N := 21) hx hb hts (fun w h => gm (i_M w h)) hown hK G.1 0 rfl rfl 20 (by decide) (hts _ (gm tw_441)) (fun _ h9 => h9) rfl d_M_horner_I_30 ?_
    refine lv_iload_n hx hb d_M_horner_I_33 rfl (lv_at hl 3 rfl) ?_
    refine va_lald hx hb hK G.1 14 0 rfl rfl (in_in c1 (by decide) (by decide)) d_M_horner_I_34 ?_
    refine pu_l (As := [.long v4, .long (m_store S x1.toNatClampNeg)]) (rest := []) ⟨hx, hb, hml, hown, hts⟩ (c_M_multiply_JJ l _ t0 t1 t2 v4 (m_store S x1.toNatClampNeg)) (pr_pre (hx_R hRT G)) (gw_call (k := 2) hts tw_573 tw_574 tw_4 tw_575 (by decide +kernel) rfl rfl ⟨Nat.le_of_ble_eq_true rfl, Nat.le_of_ble_eq_true rfl⟩) rfl hl.1 rfl (Nat.le_of_ble_eq_true rfl) ⟨Nat.zero_le _, Nat.zero_le _⟩ d_M_horner_I_35 ?_
    refine lv_aload_n hx hb d_M_horner_I_38 rfl (lv_at hl 2 rfl) ?_
    refine va_get (D := (dC, dI)) (ci := 3) (v := .ref (ad 14)) (C := R_M) (T := F_M) (N := 21) hx hb hts (fun w h => gm (i_M w h)) hown hK G.1 0 rfl rfl 20 (by decide) (hts _ (gm tw_441)) (fun _ h9 => h9) rfl d_M_horner_I_39 ?_
    refine lv_iload hx hb d_M_horner_I_42 (lv_at hl 0 rfl) ?_
    refine va_lald hx hb hK G.1 14 0 rfl rfl (in_of (by decide) (by decide)) d_M_horner_I_44 ?_
    refine pu_l (As := [.long (f_M_multiply_JJ v4 (m_store S x1.toNatClampNeg)), .long (m_store S (4 : Int32).toNatClampNeg)]) (rest := []) ⟨hx, hb, hml, hown, hts⟩ (c_M_add_JJ l _ t0 t1 t2 (f_M_multiply_JJ v4 (m_store S x1.toNatClampNeg)) (m_store S (4 : Int32).toNatClampNeg)) (pr_pre (hx_R hRT G)) (gw_call (k := 2) hts tw_611 tw_612 tw_4 tw_613 (by decide +kernel) rfl rfl ⟨Nat.le_of_ble_eq_true rfl, Nat.le_of_ble_eq_true rfl⟩) rfl hl.1 rfl (Nat.le_of_ble_eq_true rfl) ⟨Nat.zero_le _, Nat.zero_le _⟩ d_M_horner_I_45 ?_
    refine lv_topl (fun v5 e5 => ?_)
    refine lv_lstore_n (lv' := [(2, .long v5), (4, .int (4 : Int32)), (0, .ref (ad 0)), (1, .int x1)]) hx hb d_M_horner_I_48 rfl hl (by decide) rfl (fun ls hl => ?_)
    refine lv_iinc (v := (3 : Int32)) (lv' := [(4, .int (3 : Int32)), (2, .long v5), (0, .ref (ad 0)), (1, .int x1)]) hx hb d_M_horner_I_49 hl (k := 1) rfl (by decide) (by decide) rfl (fun ls hl => ?_)
    refine lv_goto (tgt := 23) hx hb d_M_horner_I_52 (by decide) ?_
    refine lv_iload hx hb d_M_horner_I_23 (lv_at hl 0 rfl) ?_
    refine lv_if_lt (tgt := 55) hx hb d_M_horner_I_25 (by decide) (fun c0 => absurd c0 (by decide)) (fun _ => ?_)
    refine lv_lload_n hx hb d_M_horner_I_28 rfl (lv_at hl 1 rfl) ?_
    refine lv_aload_n hx hb d_M_horner_I_29 rfl (lv_at hl 2 rfl) ?_
    refine va_get (D := (dC, dI)) (ci := 3) (v := .ref (ad 14)) (C := R_M) (T := F_M) (N := 21) hx hb hts (fun w h => gm (i_M w h)) hown hK G.1 0 rfl rfl 20 (by decide) (hts _ (gm tw_441)) (fun _ h9 => h9) rfl d_M_horner_I_30 ?_
    refine lv_iload_n hx hb d_M_horner_I_33 rfl (lv_at hl 3 rfl) ?_
    refine va_lald hx hb hK G.1 14 0 rfl rfl (in_in c1 (by decide) (by decide)) d_M_horner_I_34 ?_
    refine pu_l (As := [.long v5, .long (m_store S x1.toNatClampNeg)]) (rest := []) ⟨hx, hb, hml, hown, hts⟩ (c_M_multiply_JJ l _ t0 t1 t2 v5 (m_store S x1.toNatClampNeg)) (pr_pre (hx_R hRT G)) (gw_call (k := 2) hts tw_573 tw_574 tw_4 tw_575 (by decide +kernel) rfl rfl ⟨Nat.le_of_ble_eq_true rfl, Nat.le_of_ble_eq_true rfl⟩) rfl hl.1 rfl (Nat.le_of_ble_eq_true rfl) ⟨Nat.zero_le _, Nat.zero_le _⟩ d_M_horner_I_35 ?_
    refine lv_aload_n hx hb d_M_horner_I_38 rfl (lv_at hl 2 rfl) ?_
    refine va_get (D := (dC, dI)) (ci := 3) (v := .ref (ad 14)) (C := R_M) (T := F_M) (N := 21) hx hb hts (fun w h => gm (i_M w h)) hown hK G.1 0 rfl rfl 20 (by decide) (hts _ (gm tw_441)) (fun _ h9 => h9) rfl d_M_horner_I_39 ?_
    refine lv_iload hx hb d_M_horner_I_42 (lv_at hl 0 rfl) ?_
    refine va_lald hx hb hK G.1 14 0 rfl rfl (in_of (by decide) (by decide)) d_M_horner_I_44 ?_
    refine pu_l (As := [.long (f_M_multiply_JJ v5 (m_store S x1.toNatClampNeg)), .long (m_store S (3 : Int32).toNatClampNeg)]) (rest := []) ⟨hx, hb, hml, hown, hts⟩ (c_M_add_JJ l _ t0 t1 t2 (f_M_multiply_JJ v5 (m_store S x1.toNatClampNeg)) (m_store S (3 : Int32).toNatClampNeg)) (pr_pre (hx_R hRT G)) (gw_call (k := 2) hts tw_611 tw_612 tw_4 tw_613 (by decide +kernel) rfl rfl ⟨Nat.le_of_ble_eq_true rfl, Nat.le_of_ble_eq_true rfl⟩) rfl hl.1 rfl (Nat.le_of_ble_eq_true rfl) ⟨Nat.zero_le _, Nat.zero_le _⟩ d_M_horner_I_45 ?_
    refine lv_topl (fun v6 e6 => ?_)
    refine lv_lstore_n (lv' := [(2, .long v6), (4, .int (3 : Int32)), (0, .ref (ad 0)), (1, .int x1)]) hx hb d_M_horner_I_48 rfl hl (by decide) rfl (fun ls hl => ?_)
    refine lv_iinc (v := (2 : Int32)) (lv' := [(4, .int (2 : Int32)), (2, .long v6), (0, .ref (ad 0)), (1, .int x1)]) hx hb d_M_horner_I_49 hl (k := 1) rfl (by decide) (by decide) rfl (fun ls hl => ?_)
    refine lv_goto (tgt := 23) hx hb d_M_horner_I_52 (by decide) ?_
    refine lv_iload hx hb d_M_horner_I_23 (lv_at hl 0 rfl) ?_
    refine lv_if_lt (tgt := 55) hx hb d_M_horner_I_25 (by decide) (fun c0 => absurd c0 (by decide)) (fun _ => ?_)
    refine lv_lload_n hx hb d_M_horner_I_28 rfl (lv_at hl 1 rfl) ?_
    refine lv_aload_n hx hb d_M_horner_I_29 rfl (lv_at hl 2 rfl) ?_
    refine va_get (D := (dC, dI)) (ci := 3) (v := .ref (ad 14)) (C := R_M) (T := F_M) (N := 21) hx hb hts (fun w h => gm (i_M w h)) hown hK G.1 0 rfl rfl 20 (by decide) (hts _ (gm tw_441)) (fun _ h9 => h9) rfl d_M_horner_I_30 ?_
    refine lv_iload_n hx hb d_M_horner_I_33 rfl (lv_at hl 3 rfl) ?_
    refine va_lald hx hb hK G.1 14 0 rfl rfl (in_in c1 (by decide) (by decide)) d_M_horner_I_34 ?_
    refine pu_l (As := [.long v6, .long (m_store S x1.toNatClampNeg)]) (rest := []) ⟨hx, hb, hml, hown, hts⟩ (c_M_multiply_JJ l _ t0 t1 t2 v6 (m_store S x1.toNatClampNeg)) (pr_pre (hx_R hRT G)) (gw_call (k := 2) hts tw_573 tw_574 tw_4 tw_575 (by decide +kernel) rfl rfl ⟨Nat.le_of_ble_eq_true rfl, Nat.le_of_ble_eq_true rfl⟩) rfl hl.1 rfl (Nat.le_of_ble_eq_true rfl) ⟨Nat.zero_le _, Nat.zero_le _⟩ d_M_horner_I_35 ?_
    refine lv_aload_n hx hb d_M_horner_I_38 rfl (lv_at hl 2 rfl) ?_
    refine va_get (D := (dC, dI)) (ci := 3) (v := .ref (ad 14)) (C := R_M) (T := F_M) (N := 21) hx hb hts (fun w h => gm (i_M w h)) hown hK G.1 0 rfl rfl 20 (by decide) (hts _ (gm tw_441)) (fun _ h9 => h9) rfl d_M_horner_I_39 ?_
    refine lv_iload hx hb d_M_horner_I_42 (lv_at hl 0 rfl) ?_
    refine va_lald hx hb hK G.1 14 0 rfl rfl (in_of (by decide) (by decide)) d_M_horner_I_44 ?_
    refine pu_l (As := [.long (f_M_multiply_JJ v6 (m_store S x1.toNatClampNeg)), .long (m_store S (2 : Int32).toNatClampNeg)]) (rest := []) ⟨hx, hb, hml, hown, hts⟩ (c_M_add_JJ l _ t0 t1 t2 (f_M_multiply_JJ v6 (m_store S x1.toNatClampNeg)) (m_store S (2 : Int32).toNatClampNeg)) (pr_pre (hx_R hRT G)) (gw_call (k := 2) hts tw_611 tw_612 tw_4 tw_613 (by decide +kernel) rfl rfl ⟨Nat.le_of_ble_eq_true rfl, Nat.le_of_ble_eq_true rfl⟩) rfl hl.1 rfl (Nat.le_of_ble_eq_true rfl) ⟨Nat.zero_le _, Nat.zero_le _⟩ d_M_horner_I_45 ?_
    refine lv_topl (fun v7 e7 => ?_)
    refine lv_lstore_n (lv' := [(2, .long v7), (4, .int (2 : Int32)), (0, .ref (ad 0)), (1, .int x1)]) hx hb d_M_horner_I_48 rfl hl (by decide) rfl (fun ls hl => ?_)
    refine lv_iinc (v := (1 : Int32)) (lv' := [(4, .int (1 : Int32)), (2, .long v7), (0, .ref (ad 0)), (1, .int x1)]) hx hb d_M_horner_I_49 hl (k := 1) rfl (by decide) (by decide) rfl (fun ls hl => ?_)
    refine lv_goto (tgt := 23) hx hb d_M_horner_I_52 (by decide) ?_
    refine lv_iload hx hb d_M_horner_I_23 (lv_at hl 0 rfl) ?_
    refine lv_if_lt (tgt := 55) hx hb d_M_horner_I_25 (by decide) (fun c0 => absurd c0 (by decide)) (fun _ => ?_)
    refine lv_lload_n hx hb d_M_horner_I_28 rfl (lv_at hl 1 rfl) ?_
    refine lv_aload_n hx hb d_M_horner_I_29 rfl (lv_at hl 2 rfl) ?_
    refine va_get (D := (dC, dI)) (ci := 3) (v := .ref (ad 14)) (C := R_M) (T := F_M) (N := 21) hx hb hts (fun w h => gm (i_M w h)) hown hK G.1 0 rfl rfl 20 (by decide) (hts _ (gm tw_441)) (fun _ h9 => h9) rfl d_M_horner_I_30 ?_
    refine lv_iload_n hx hb d_M_horner_I_33 rfl (lv_at hl 3 rfl) ?_
    refine va_lald hx hb hK G.1 14 0 rfl rfl (in_in c1 (by decide) (by decide)) d_M_horner_I_34 ?_
    refine pu_l (As := [.long v7, .long (m_store S x1.toNatClampNeg)]) (rest := []) ⟨hx, hb, hml, hown, hts⟩ (c_M_multiply_JJ l _ t0 t1 t2 v7 (m_store S x1.toNatClampNeg)) (pr_pre (hx_R hRT G)) (gw_call (k := 2) hts tw_573 tw_574 tw_4 tw_575 (by decide +kernel) rfl rfl ⟨Nat.le_of_ble_eq_true rfl, Nat.le_of_ble_eq_true rfl⟩) rfl hl.1 rfl (Nat.le_of_ble_eq_true rfl) ⟨Nat.zero_le _, Nat.zero_le _⟩ d_M_horner_I_35 ?_
    refine lv_aload_n hx hb d_M_horner_I_38 rfl (lv_at hl 2 rfl) ?_
    refine va_get (D := (dC, dI)) (ci := 3) (v := .ref (ad 14)) (C := R_M) (T := F_M) (N := 21) hx hb hts (fun w h => gm (i_M w h)) hown hK G.1 0 rfl rfl 20 (by decide) (hts _ (gm tw_441)) (fun _ h9 => h9) rfl d_M_horner_I_39 ?_
    refine lv_iload hx hb d_M_horner_I_42 (lv_at hl 0 rfl) ?_
    refine va_lald hx hb hK G.1 14 0 rfl rfl (in_of (by decide) (by decide)) d_M_horner_I_44 ?_
    refine pu_l (As := [.long (f_M_multiply_JJ v7 (m_store S x1.toNatClampNeg)), .long (m_store S (1 : Int32).toNatClampNeg)]) (rest := []) ⟨hx, hb, hml, hown, hts⟩ (c_M_add_JJ l _ t0 t1 t2 (f_M_multiply_JJ v7 (m_store S x1.toNatClampNeg)) (m_store S (1 : Int32).toNatClampNeg)) (pr_pre (hx_R hRT G)) (gw_call (k := 2) hts tw_611 tw_612 tw_4 tw_613 (by decide +kernel) rfl rfl ⟨Nat.le_of_ble_eq_true rfl, Nat.le_of_ble_eq_true rfl⟩) rfl hl.1 rfl (Nat.le_of_ble_eq_true rfl) ⟨Nat.zero_le _, Nat.zero_le _⟩ d_M_horner_I_45 ?_
    refine lv_topl (fun v8 e8 => ?_)
    refine lv_lstore_n (lv' := [(2, .long v8), (4, .int (1 : Int32)), (0, .ref (ad 0)), (1, .int x1)]) hx hb d_M_horner_I_48 rfl hl (by decide) rfl (fun ls hl => ?_)
    refine lv_iinc (v := (0 : Int32)) (lv' := [(4, .int (0 : Int32)), (2, .long v8), (0, .ref (ad 0)), (1, .int x1)]) hx hb d_M_horner_I_49 hl (k := 1) rfl (by decide) (by decide) rfl (fun ls hl => ?_)
    refine lv_goto (tgt := 23) hx hb d_M_horner_I_52 (by decide) ?_
    refine lv_iload hx hb d_M_horner_I_23 (lv_at hl 0 rfl) ?_
    refine lv_if_lt (tgt := 55) hx hb d_M_horner_I_25 (by decide) (fun c0 => absurd c0 (by decide)) (fun _ => ?_)
    refine lv_lload_n hx hb d_M_horner_I_28 rfl (lv_at hl 1 rfl) ?_
    refine lv_aload_n hx hb d_M_horner_I_29 rfl (lv_at hl 2 rfl) ?_
    refine va_get (D := (dC, dI)) (ci := 3) (v := .ref (ad 14)) (C := R_M) (T := F_M) (N := 21) hx hb hts (fun w h => gm (i_M w h)) hown hK G.1 0 rfl rfl 20 (by decide) (hts _ (gm tw_441)) (fun _ h9 => h9) rfl d_M_horner_I_30 ?_
    refine lv_iload_n hx hb d_M_horner_I_33 rfl (lv_at hl 3 rfl) ?_
    refine va_lald hx hb hK G.1 14 0 rfl rfl (in_in c1 (by decide) (by decide)) d_M_horner_I_34 ?_
    refine pu_l (As := [.long v8, .long (m_store S x1.toNatClampNeg)]) (rest := []) ⟨hx, hb, hml, hown, hts⟩ (c_M_multiply_JJ l _ t0 t1 t2 v8 (m_store S x1.toNatClampNeg)) (pr_pre (hx_R hRT G)) (gw_call (k := 2) hts tw_573 tw_574 tw_4 tw_575 (by decide +kernel) rfl rfl ⟨Nat.le_of_ble_eq_true rfl, Nat.le_of_ble_eq_true rfl⟩) rfl hl.1 rfl (Nat.le_of_ble_eq_true rfl) ⟨Nat.zero_le _, Nat.zero_le _⟩ d_M_horner_I_35 ?_
    refine lv_aload_n hx hb d_M_horner_I_38 rfl (lv_at hl 2 rfl) ?_
    refine va_get (D := (dC, dI)) (ci := 3) (v := .ref (ad 14)) (C := R_M) (T := F_M) (N := 21) hx hb hts (fun w h => gm (i_M w h)) hown hK G.1 0 rfl rfl 20 (by decide) (hts _ (gm tw_441)) (fun _ h9 => h9) rfl d_M_horner_I_39 ?_
    refine lv_iload hx hb d_M_horner_I_42 (lv_at hl 0 rfl) ?_
    refine va_lald hx hb hK G.1 14 0 rfl rfl (in_of (by decide) (by decide)) d_M_horner_I_44 ?_
    refine pu_l (As := [.long (f_M_multiply_JJ v8 (m_store S x1.toNatClampNeg)), .long (m_store S (0 : Int32).toNatClampNeg)]) (rest := []) ⟨hx, hb, hml, hown, hts⟩ (c_M_add_JJ l _ t0 t1 t2 (f_M_multiply_JJ v8 (m_store S x1.toNatClampNeg)) (m_store S (0 : Int32).toNatClampNeg)) (pr_pre (hx_R hRT G)) (gw_call (k := 2) hts tw_611 tw_612 tw_4 tw_613 (by decide +kernel) rfl rfl ⟨Nat.le_of_ble_eq_true rfl, Nat.le_of_ble_eq_true rfl⟩) rfl hl.1 rfl (Nat.le_of_ble_eq_true rfl) ⟨Nat.zero_le _, Nat.zero_le _⟩ d_M_horner_I_45 ?_
    refine lv_topl (fun v9 e9 => ?_)
    refine lv_lstore_n (lv' := [(2, .long v9), (4, .int (0 : Int32)), (0, .ref (ad 0)), (1, .int x1)]) hx hb d_M_horner_I_48 rfl hl (by decide) rfl (fun ls hl => ?_)
    refine lv_iinc (v := (-1 : Int32)) (lv' := [(4, .int (-1 : Int32)), (2, .long v9), (0, .ref (ad 0)), (1, .int x1)]) hx hb d_M_horner_I_49 hl (k := 1) rfl (by decide) (by decide) rfl (fun ls hl => ?_)
    refine lv_goto (tgt := 23) hx hb d_M_horner_I_52 (by decide) ?_
    refine lv_iload hx hb d_M_horner_I_23 (lv_at hl 0 rfl) ?_
    refine lv_if_lt (tgt := 55) hx hb d_M_horner_I_25 (by decide) (fun _ => ?_) (fun c0 => absurd c0 (by decide))
    refine lv_lload_n hx hb d_M_horner_I_55 rfl (lv_at hl 1 rfl) ?_
    refine pu_l (As := [.long v9]) (rest := []) ⟨hx, hb, hml, hown, hts⟩ (c_M_told_J l _ v9) pu_pre (gw_call (k := 1) hts tw_647 tw_648 tw_4 tw_649 (by decide +kernel) rfl rfl ⟨Nat.le_of_ble_eq_true rfl, Nat.le_of_ble_eq_true rfl⟩) rfl hl.1 rfl (Nat.le_of_ble_eq_true rfl) ⟨Nat.zero_le _, Nat.zero_le _⟩ d_M_horner_I_56 ?_
    exact hg_lret hx hb hr hlocks hK hAe G (by have e9 : f_M_horner_I S x1 = f_M_told_J v9 := (by have qe2 := e2.symm; have qe3 := e3.symm; have qe4 := e4.symm; have qe5 := e5.symm; have qe6 := e6.symm; have qe7 := e7.symm; have qe8 := e8.symm; have qe9 := e9.symm; subst qe2 qe3 qe4 qe5 qe6 qe7 qe8 qe9; exact (if_neg c1)); exact ⟨Eq.symm e9, rfl⟩) d_M_horner_I_59
  · refine lv_lconst (v := (1 : Int64)) hx hb d_M_horner_I_9 (by decide) ?_
    exact hg_lret hx hb hr hlocks hK hAe G (by have e9 : f_M_horner_I S x1 = (1 : Int64) := (by exact (if_pos c1)); exact ⟨Eq.symm e9, rfl⟩) d_M_horner_I_10
-- ===== MotionLabModel.single(I)I 
abbrev y_M_single_I : MethodName := ⟨"MotionLabModel", "single", "(I)I"⟩
abbrev b_M_single_I : ByteArray := prog_6_method_59_code
theorem d_M_single_I_0 : decode b_M_single_I 0 = .ok (.iload_n 1, 1) := by decide +kernel
theorem d_M_single_I_1 : decode b_M_single_I 1 = .ok (.bipush 8, 2) := by decide +kernel
theorem d_M_single_I_3 : decode b_M_single_I 3 = .ok (.invokestatic 190, 3) := by decide +kernel
theorem d_M_single_I_6 : decode b_M_single_I 6 = .ok (.ifCond .eq 16, 3) := by decide +kernel
theorem d_M_single_I_9 : decode b_M_single_I 9 = .ok (.aload_n 0, 1) := by decide +kernel
theorem d_M_single_I_10 : decode b_M_single_I 10 = .ok (.getfield 187, 3) := by decide +kernel
theorem d_M_single_I_13 : decode b_M_single_I 13 = .ok (.iload_n 1, 1) := by decide +kernel
theorem d_M_single_I_14 : decode b_M_single_I 14 = .ok (.laload, 1) := by decide +kernel
theorem d_M_single_I_15 : decode b_M_single_I 15 = .ok (.invokestatic 194, 3) := by decide +kernel
theorem d_M_single_I_18 : decode b_M_single_I 18 = .ok (.l2i, 1) := by decide +kernel
theorem d_M_single_I_19 : decode b_M_single_I 19 = .ok (.goto 4, 3) := by decide +kernel
theorem d_M_single_I_22 : decode b_M_single_I 22 = .ok (.iconst 1, 1) := by decide +kernel
theorem d_M_single_I_23 : decode b_M_single_I 23 = .ok (.ireturn, 1) := by decide +kernel
def f_M_single_I (S : MS) (x1 : Int32) : Int32 :=
  if (f_M_in_II x1 (8 : Int32)) = 0 then
    (1 : Int32)
  else
    (f_M_toFloat_J (m_store S x1.toNatClampNeg)).toInt32
set_option maxHeartbeats 2000000 in
set_option maxRecDepth 100000 in
theorem c_M_single_I (l : Launch) (dC : Nat → ClassId) (dI : Nat → Nat → Nat) (ad : Nat → Nat) (cJ cI : ClassId) (t0 t1 t2 : Nat) (S : MS) (x1 : Int32) (sz : Nat) : hMi l y_M_single_I (gw y_M_single_I b_M_single_I 2 (some .int)) { frames := 6, cells := 0, slots := 0, locals := 145 } [.ref (ad 0), .int x1] (dC, dI) classes (tysJI cJ cI) (hE_M t0 t1 t2 (mW ad cJ cI S) sz) (mW ad cJ cI S) sz (f_M_single_I S x1) (mW ad cJ cI S) := by
  refine Met.ofW (cc := b_M_single_I) (maxL := 2) (ret := (some .int)) (by decide) rfl ?_
  intro p e s m args below meth c s₁ B hml hv
  obtain ⟨rfl, hsz, hP, hK, hD0, hRT⟩ := hv
  have hx := B.exec
  have hb := B.bytes
  have hr := B.returns
  have hts := atoms_spec (ws := (gw y_M_single_I b_M_single_I 2 (some .int))) B.pre
  have hown : s.vm.findClass "MotionLabModel" = some m.cls := findClass_of_methodNamed B.named
  have hlocks := B.notSynchronized
  subst hsz
  have hD := hD0.self (sz := s.heap.size)
  have hRT : RTA t0 t1 t2 (va_A (mW ad cJ cI S) s.heap.size) s s.heap := hRT
  generalize hAe : va_A (mW ad cJ cI S) s.heap.size = A at hD hRT
  have hA : ∀ q : Nat, s.heap.size ≤ q → A q := fun q h => by rw [← hAe]; exact Or.inr h
  have G : hG (dC, dI) classes A s.heap (mW ad cJ cI S) s.heap [] := ⟨hP, hD, va_S.rf⟩
  have hl := lv_entry ([.ref (ad 0), .int x1]) (n := 2) (Nat.le_of_ble_eq_true rfl)
  rw [lg_entry_eq]
  generalize (lg_sl ([.ref (ad 0), .int x1]) ++ List.replicate (2 - (lg_sl ([.ref (ad 0), .int x1])).length) Slot.unset).toArray = ls at hl ⊢
  have hl : lv_has ls 2 [(0, .ref (ad 0)), (1, .int x1)] := hl
  refine lv_iload_n hx hb d_M_single_I_0 rfl (lv_at hl 1 rfl) ?_
  refine lv_bipush (v := (8 : Int32)) hx hb d_M_single_I_1 (by decide) ?_
  refine pu_i (As := [.int x1, .int (8 : Int32)]) (rest := []) ⟨hx, hb, hml, hown, hts⟩ (c_M_in_II l _ x1 (8 : Int32)) pu_pre (gw_call (k := 2) hts tw_489 tw_490 tw_4 tw_491 (by decide +kernel) rfl rfl ⟨Nat.le_of_ble_eq_true rfl, Nat.le_of_ble_eq_true rfl⟩) rfl hl.1 rfl (Nat.le_of_ble_eq_true rfl) ⟨Nat.zero_le _, Nat.zero_le _⟩ d_M_single_I_3 ?_
  refine lv_if_eq (tgt := 22) hx hb d_M_single_I_6 (by decide) (fun c1 => ?_) (fun c1 => ?_)
  · refine lv_iconst (v := 1) hx hb d_M_single_I_22 (by decide) ?_
    exact hg_iret hx hb hr hlocks hK hAe G (by have e9 : f_M_single_I S x1 = (1 : Int32) := (by exact (if_pos c1)); exact ⟨Eq.symm e9, rfl⟩) d_M_single_I_23
  · refine lv_aload_n hx hb d_M_single_I_9 rfl (lv_at hl 0 rfl) ?_
    refine va_get (D := (dC, dI)) (ci := 3) (v := .ref (ad 14)) (C := R_M) (T := F_M) (N := 21) hx hb hts (fun w h => gm (i_M w h)) hown hK G.1 0 rfl rfl 20 (by decide) (hts _ (gm tw_441)) (fun _ h9 => h9) rfl d_M_single_I_10 ?_
    refine lv_iload_n hx hb d_M_single_I_13 rfl (lv_at hl 1 rfl) ?_
    refine va_lald hx hb hK G.1 14 0 rfl rfl (in_in c1 (by decide) (by decide)) d_M_single_I_14 ?_
    refine pu_l (As := [.long (m_store S x1.toNatClampNeg)]) (rest := []) ⟨hx, hb, hml, hown, hts⟩ (c_M_toFloat_J l _ t0 t1 t2 (m_store S x1.toNatClampNeg)) (pr_pre (hx_R hRT G)) (gw_call (k := 1) hts tw_492 tw_493 tw_4 tw_494 (by decide +kernel) rfl rfl ⟨Nat.le_of_ble_eq_true rfl, Nat.le_of_ble_eq_true rfl⟩) rfl hl.1 rfl (Nat.le_of_ble_eq_true rfl) ⟨Nat.zero_le _, Nat.zero_le _⟩ d_M_single_I_15 ?_
    refine lv_l2i hx hb d_M_single_I_18 rfl ?_
    refine lv_goto (tgt := 23) hx hb d_M_single_I_19 (by decide) ?_
    exact hg_iret hx hb hr hlocks hK hAe G (by have e9 : f_M_single_I S x1 = (f_M_toFloat_J (m_store S x1.toNatClampNeg)).toInt32 := (by exact (if_neg c1)); exact ⟨Eq.symm e9, rfl⟩) d_M_single_I_23
-- ===== MotionLabModel.fromSingle(II)J 
abbrev y_M_fromSingle_II : MethodName := ⟨"MotionLabModel", "fromSingle", "(II)J"⟩
abbrev b_M_fromSingle_II : ByteArray := prog_6_method_60_code
theorem d_M_fromSingle_II_0 : decode b_M_fromSingle_II 0 = .ok (.iload_n 1, 1) := by decide +kernel
theorem d_M_fromSingle_II_1 : decode b_M_fromSingle_II 1 = .ok (.bipush 8, 2) := by decide +kernel
theorem d_M_fromSingle_II_3 : decode b_M_fromSingle_II 3 = .ok (.invokestatic 190, 3) := by decide +kernel
theorem d_M_fromSingle_II_6 : decode b_M_fromSingle_II 6 = .ok (.ifCond .ne 5, 3) := by decide +kernel
theorem d_M_fromSingle_II_9 : decode b_M_fromSingle_II 9 = .ok (.lconst 1, 1) := by decide +kernel
theorem d_M_fromSingle_II_10 : decode b_M_fromSingle_II 10 = .ok (.lreturn, 1) := by decide +kernel
theorem d_M_fromSingle_II_11 : decode b_M_fromSingle_II 11 = .ok (.aload_n 0, 1) := by decide +kernel
theorem d_M_fromSingle_II_12 : decode b_M_fromSingle_II 12 = .ok (.getfield 187, 3) := by decide +kernel
theorem d_M_fromSingle_II_15 : decode b_M_fromSingle_II 15 = .ok (.iload_n 1, 1) := by decide +kernel
theorem d_M_fromSingle_II_16 : decode b_M_fromSingle_II 16 = .ok (.iload_n 2, 1) := by decide +kernel
theorem d_M_fromSingle_II_17 : decode b_M_fromSingle_II 17 = .ok (.invokestatic 213, 3) := by decide +kernel
theorem d_M_fromSingle_II_20 : decode b_M_fromSingle_II 20 = .ok (.invokestatic 229, 3) := by decide +kernel
theorem d_M_fromSingle_II_23 : decode b_M_fromSingle_II 23 = .ok (.lastore, 1) := by decide +kernel
theorem d_M_fromSingle_II_24 : decode b_M_fromSingle_II 24 = .ok (.aload_n 0, 1) := by decide +kernel
theorem d_M_fromSingle_II_25 : decode b_M_fromSingle_II 25 = .ok (.getfield 187, 3) := by decide +kernel
theorem d_M_fromSingle_II_28 : decode b_M_fromSingle_II 28 = .ok (.iload_n 1, 1) := by decide +kernel
theorem d_M_fromSingle_II_29 : decode b_M_fromSingle_II 29 = .ok (.laload, 1) := by decide +kernel
theorem d_M_fromSingle_II_30 : decode b_M_fromSingle_II 30 = .ok (.invokestatic 251, 3) := by decide +kernel
theorem d_M_fromSingle_II_33 : decode b_M_fromSingle_II 33 = .ok (.lreturn, 1) := by decide +kernel
def f_M_fromSingle_II (S : MS) (x1 : Int32) (x2 : Int32) : Int64 × MS :=
  if (f_M_in_II x1 (8 : Int32)) = 0 then
    ((1 : Int64), S)
  else
    let S2 : MS := u_m_store S (vp_updL (m_store S) x1.toNatClampNeg (f_M_toDouble_J (f_M_floatOf_I x2)))
    (f_M_told_J (m_store S2 x1.toNatClampNeg), S2)
set_option maxHeartbeats 2000000 in
set_option maxRecDepth 100000 in
theorem c_M_fromSingle_II (l : Launch) (dC : Nat → ClassId) (dI : Nat → Nat → Nat) (ad : Nat → Nat) (cJ cI : ClassId) (t0 t1 t2 : Nat) (S : MS) (x1 : Int32) (x2 : Int32) (sz : Nat) : hMl l y_M_fromSingle_II (gw y_M_fromSingle_II b_M_fromSingle_II 3 (some .long)) { frames := 6, cells := 0, slots := 0, locals := 145 } [.ref (ad 0), .int x1, .int x2] (dC, dI) classes (tysJI cJ cI) (hE_M t0 t1 t2 (mW ad cJ cI S) sz) (mW ad cJ cI S) sz (f_M_fromSingle_II S x1 x2).1 (mW ad cJ cI (f_M_fromSingle_II S x1 x2).2) := by
  refine Met.ofW (cc := b_M_fromSingle_II) (maxL := 3) (ret := (some .long)) (by decide) rfl ?_
  intro p e s m args below meth c s₁ B hml hv
  obtain ⟨rfl, hsz, hP, hK, hD0, hRT⟩ := hv
  have hx := B.exec
  have hb := B.bytes
  have hr := B.returns
  have hts := atoms_spec (ws := (gw y_M_fromSingle_II b_M_fromSingle_II 3 (some .long))) B.pre
  have hown : s.vm.findClass "MotionLabModel" = some m.cls := findClass_of_methodNamed B.named
  have hlocks := B.notSynchronized
  subst hsz
  have hD := hD0.self (sz := s.heap.size)
  have hRT : RTA t0 t1 t2 (va_A (mW ad cJ cI S) s.heap.size) s s.heap := hRT
  generalize hAe : va_A (mW ad cJ cI S) s.heap.size = A at hD hRT
  have hA : ∀ q : Nat, s.heap.size ≤ q → A q := fun q h => by rw [← hAe]; exact Or.inr h
  have G : hG (dC, dI) classes A s.heap (mW ad cJ cI S) s.heap [] := ⟨hP, hD, va_S.rf⟩
  have hl := lv_entry ([.ref (ad 0), .int x1, .int x2]) (n := 3) (Nat.le_of_ble_eq_true rfl)
  rw [lg_entry_eq]
  generalize (lg_sl ([.ref (ad 0), .int x1, .int x2]) ++ List.replicate (3 - (lg_sl ([.ref (ad 0), .int x1, .int x2])).length) Slot.unset).toArray = ls at hl ⊢
  have hl : lv_has ls 3 [(0, .ref (ad 0)), (1, .int x1), (2, .int x2)] := hl
  refine lv_iload_n hx hb d_M_fromSingle_II_0 rfl (lv_at hl 1 rfl) ?_
  refine lv_bipush (v := (8 : Int32)) hx hb d_M_fromSingle_II_1 (by decide) ?_
  refine pu_i (As := [.int x1, .int (8 : Int32)]) (rest := []) ⟨hx, hb, hml, hown, hts⟩ (c_M_in_II l _ x1 (8 : Int32)) pu_pre (gw_call (k := 2) hts tw_489 tw_490 tw_4 tw_491 (by decide +kernel) rfl rfl ⟨Nat.le_of_ble_eq_true rfl, Nat.le_of_ble_eq_true rfl⟩) rfl hl.1 rfl (Nat.le_of_ble_eq_true rfl) ⟨Nat.zero_le _, Nat.zero_le _⟩ d_M_fromSingle_II_3 ?_
  refine lv_if_ne (tgt := 11) hx hb d_M_fromSingle_II_6 (by decide) (fun c1 => ?_) (fun c1 => ?_)
  · refine lv_aload_n hx hb d_M_fromSingle_II_11 rfl (lv_at hl 0 rfl) ?_
    refine va_get (D := (dC, dI)) (ci := 3) (v := .ref (ad 14)) (C := R_M) (T := F_M) (N := 21) hx hb hts (fun w h => gm (i_M w h)) hown hK G.1 0 rfl rfl 20 (by decide) (hts _ (gm tw_441)) (fun _ h9 => h9) rfl d_M_fromSingle_II_12 ?_
    refine lv_iload_n hx hb d_M_fromSingle_II_15 rfl (lv_at hl 1 rfl) ?_
    refine lv_iload_n hx hb d_M_fromSingle_II_16 rfl (lv_at hl 2 rfl) ?_
    refine pu_l (As := [.int x2]) (rest := [.int x1, .ref (ad 14)]) ⟨hx, hb, hml, hown, hts⟩ (c_M_floatOf_I l _ x2) pu_pre (gw_call (k := 1) hts tw_554 tw_555 tw_4 tw_556 (by decide +kernel) rfl rfl ⟨Nat.le_of_ble_eq_true rfl, Nat.le_of_ble_eq_true rfl⟩) rfl hl.1 rfl (Nat.le_of_ble_eq_true rfl) ⟨Nat.zero_le _, Nat.zero_le _⟩ d_M_fromSingle_II_17 ?_
    refine pu_l (As := [.long (f_M_floatOf_I x2)]) (rest := [.int x1, .ref (ad 14)]) ⟨hx, hb, hml, hown, hts⟩ (c_M_toDouble_J l _ t0 t1 t2 (f_M_floatOf_I x2)) (pr_pre (hx_R hRT G)) (gw_call (k := 1) hts tw_570 tw_571 tw_4 tw_572 (by decide +kernel) rfl rfl ⟨Nat.le_of_ble_eq_true rfl, Nat.le_of_ble_eq_true rfl⟩) rfl hl.1 rfl (Nat.le_of_ble_eq_true rfl) ⟨Nat.zero_le _, Nat.zero_le _⟩ d_M_fromSingle_II_20 ?_
    obtain ⟨S2, e2⟩ : ∃ z : MS, z = u_m_store S (vp_updL (m_store S) x1.toNatClampNeg (f_M_toDouble_J (f_M_floatOf_I x2))) := ⟨_, rfl⟩
    refine hg_last hx hb hK G 14 0 rfl rfl (in_in c1 (by decide) (by decide)) d_M_fromSingle_II_23 (mW ad cJ cI S2) (by rw [e2]; rfl) (fun H locs G => ?_)
    refine lv_aload_n hx hb d_M_fromSingle_II_24 rfl (lv_at hl 0 rfl) ?_
    refine va_get (D := (dC, dI)) (ci := 3) (v := .ref (ad 14)) (C := R_M) (T := F_M) (N := 21) hx hb hts (fun w h => gm (i_M w h)) hown hK G.1 0 rfl rfl 20 (by decide) (hts _ (gm tw_441)) (fun _ h9 => h9) rfl d_M_fromSingle_II_25 ?_
    refine lv_iload_n hx hb d_M_fromSingle_II_28 rfl (lv_at hl 1 rfl) ?_
    refine va_lald hx hb hK G.1 14 0 rfl rfl (in_in c1 (by decide) (by decide)) d_M_fromSingle_II_29 ?_
    refine pu_l (As := [.long (m_store S2 x1.toNatClampNeg)]) (rest := []) ⟨hx, hb, hml, hown, hts⟩ (c_M_told_J l _ (m_store S2 x1.toNatClampNeg)) pu_pre (gw_call (k := 1) hts tw_647 tw_648 tw_4 tw_649 (by decide +kernel) rfl rfl ⟨Nat.le_of_ble_eq_true rfl, Nat.le_of_ble_eq_true rfl⟩) rfl hl.1 rfl (Nat.le_of_ble_eq_true rfl) ⟨Nat.zero_le _, Nat.zero_le _⟩ d_M_fromSingle_II_30 ?_
    exact hg_lret hx hb hr hlocks hK hAe G (by have qe2 := e2.symm; subst qe2; unfold f_M_fromSingle_II; rw [if_neg c1]; exact ⟨rfl, rfl⟩) d_M_fromSingle_II_33
  · refine lv_lconst (v := (1 : Int64)) hx hb d_M_fromSingle_II_9 (by decide) ?_
    exact hg_lret hx hb hr hlocks hK hAe G (by unfold f_M_fromSingle_II; rw [if_pos c1]; exact ⟨rfl, rfl⟩) d_M_fromSingle_II_10
