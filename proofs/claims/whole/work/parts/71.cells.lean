-- ===== MotionLab.horner(I)J 
abbrev y_L_horner_I : MethodName := ⟨"MotionLab", "horner", "(I)J"⟩
abbrev b_L_horner_I : ByteArray := prog_1_method_16_code
theorem d_L_horner_I_0 : decode b_L_horner_I 0 = .ok (.iload_n 1, 1) := by decide +kernel
theorem d_L_horner_I_1 : decode b_L_horner_I 1 = .ok (.invokestatic 76, 3) := by decide +kernel
theorem d_L_horner_I_4 : decode b_L_horner_I 4 = .ok (.ifCond .ne 5, 3) := by decide +kernel
theorem d_L_horner_I_7 : decode b_L_horner_I 7 = .ok (.lconst 1, 1) := by decide +kernel
theorem d_L_horner_I_8 : decode b_L_horner_I 8 = .ok (.lreturn, 1) := by decide +kernel
theorem d_L_horner_I_9 : decode b_L_horner_I 9 = .ok (.aload_n 0, 1) := by decide +kernel
theorem d_L_horner_I_10 : decode b_L_horner_I 10 = .ok (.getfield 16, 3) := by decide +kernel
theorem d_L_horner_I_13 : decode b_L_horner_I 13 = .ok (.bipush 7, 2) := by decide +kernel
theorem d_L_horner_I_15 : decode b_L_horner_I 15 = .ok (.laload, 1) := by decide +kernel
theorem d_L_horner_I_16 : decode b_L_horner_I 16 = .ok (.lstore_n 2, 1) := by decide +kernel
theorem d_L_horner_I_17 : decode b_L_horner_I 17 = .ok (.bipush 6, 2) := by decide +kernel
theorem d_L_horner_I_19 : decode b_L_horner_I 19 = .ok (.istore 4, 2) := by decide +kernel
theorem d_L_horner_I_21 : decode b_L_horner_I 21 = .ok (.iload 4, 2) := by decide +kernel
theorem d_L_horner_I_23 : decode b_L_horner_I 23 = .ok (.ifCond .lt 30, 3) := by decide +kernel
theorem d_L_horner_I_26 : decode b_L_horner_I 26 = .ok (.lload_n 2, 1) := by decide +kernel
theorem d_L_horner_I_27 : decode b_L_horner_I 27 = .ok (.aload_n 0, 1) := by decide +kernel
theorem d_L_horner_I_28 : decode b_L_horner_I 28 = .ok (.getfield 16, 3) := by decide +kernel
theorem d_L_horner_I_31 : decode b_L_horner_I 31 = .ok (.iload_n 1, 1) := by decide +kernel
theorem d_L_horner_I_32 : decode b_L_horner_I 32 = .ok (.laload, 1) := by decide +kernel
theorem d_L_horner_I_33 : decode b_L_horner_I 33 = .ok (.invokestatic 118, 3) := by decide +kernel
theorem d_L_horner_I_36 : decode b_L_horner_I 36 = .ok (.aload_n 0, 1) := by decide +kernel
theorem d_L_horner_I_37 : decode b_L_horner_I 37 = .ok (.getfield 16, 3) := by decide +kernel
theorem d_L_horner_I_40 : decode b_L_horner_I 40 = .ok (.iload 4, 2) := by decide +kernel
theorem d_L_horner_I_42 : decode b_L_horner_I 42 = .ok (.laload, 1) := by decide +kernel
theorem d_L_horner_I_43 : decode b_L_horner_I 43 = .ok (.invokestatic 122, 3) := by decide +kernel
theorem d_L_horner_I_46 : decode b_L_horner_I 46 = .ok (.lstore_n 2, 1) := by decide +kernel
theorem d_L_horner_I_47 : decode b_L_horner_I 47 = .ok (.iinc 4 (-1), 3) := by decide +kernel
theorem d_L_horner_I_50 : decode b_L_horner_I 50 = .ok (.goto (-29), 3) := by decide +kernel
theorem d_L_horner_I_53 : decode b_L_horner_I 53 = .ok (.lload_n 2, 1) := by decide +kernel
theorem d_L_horner_I_54 : decode b_L_horner_I 54 = .ok (.lreturn, 1) := by decide +kernel
def f_L_horner_I (S : CS) (x1 : Int32) : Int64 :=
  if (f_L_isStore_I x1) = 0 then
    (1 : Int64)
  else
    let v2 : Int64 := sT S (7 : Int32).toNatClampNeg
    let v3 : Int64 := f_I_sum_JJ (f_I_product_JJ v2 (sT S x1.toNatClampNeg)) (sT S (6 : Int32).toNatClampNeg)
    let v4 : Int64 := f_I_sum_JJ (f_I_product_JJ v3 (sT S x1.toNatClampNeg)) (sT S (5 : Int32).toNatClampNeg)
    let v5 : Int64 := f_I_sum_JJ (f_I_product_JJ v4 (sT S x1.toNatClampNeg)) (sT S (4 : Int32).toNatClampNeg)
    let v6 : Int64 := f_I_sum_JJ (f_I_product_JJ v5 (sT S x1.toNatClampNeg)) (sT S (3 : Int32).toNatClampNeg)
    let v7 : Int64 := f_I_sum_JJ (f_I_product_JJ v6 (sT S x1.toNatClampNeg)) (sT S (2 : Int32).toNatClampNeg)
    let v8 : Int64 := f_I_sum_JJ (f_I_product_JJ v7 (sT S x1.toNatClampNeg)) (sT S (1 : Int32).toNatClampNeg)
    let v9 : Int64 := f_I_sum_JJ (f_I_product_JJ v8 (sT S x1.toNatClampNeg)) (sT S (0 : Int32).toNatClampNeg)
    v9
set_option maxHeartbeats 2000000 in
set_option maxRecDepth 100000 in
theorem c_L_horner_I (l : Launch) (dC : Nat → ClassId) (dI : Nat → Nat → Nat) (ad : Nat → Nat) (cJ cI : ClassId) (S : CS) (x1 : Int32) (sz : Nat) : hMl l y_L_horner_I (gw y_L_horner_I b_L_horner_I 5 (some .long)) { frames := 4, cells := 0, slots := 0, locals := 104 } [.ref (ad 0), .int x1] (dC, dI) classes (tysJI cJ cI) (fun _ => True) (cW ad cJ cI S) sz (f_L_horner_I S x1) (cW ad cJ cI S) := by
  refine Met.ofW (cc := b_L_horner_I) (maxL := 5) (ret := (some .long)) (by decide) rfl ?_
  intro p e s m args below meth c s₁ B hml hv
  obtain ⟨rfl, hsz, hP, hK, hD0, hRT⟩ := hv
  have hx := B.exec
  have hb := B.bytes
  have hr := B.returns
  have hts := atoms_spec (ws := (gw y_L_horner_I b_L_horner_I 5 (some .long))) B.pre
  have hown : s.vm.findClass "MotionLab" = some m.cls := findClass_of_methodNamed B.named
  have hlocks := B.notSynchronized
  subst hsz
  have hD := hD0.self (sz := s.heap.size)
  generalize hAe : va_A (cW ad cJ cI S) s.heap.size = A at hD
  have hA : ∀ q : Nat, s.heap.size ≤ q → A q := fun q h => by rw [← hAe]; exact Or.inr h
  have G : hG (dC, dI) classes A s.heap (cW ad cJ cI S) s.heap [] := ⟨hP, hD, va_S.rf⟩
  have hl := lv_entry ([.ref (ad 0), .int x1]) (n := 5) (Nat.le_of_ble_eq_true rfl)
  rw [lg_entry_eq]
  generalize (lg_sl ([.ref (ad 0), .int x1]) ++ List.replicate (5 - (lg_sl ([.ref (ad 0), .int x1])).length) Slot.unset).toArray = ls at hl ⊢
  have hl : lv_has ls 5 [(0, .ref (ad 0)), (1, .int x1)] := hl
  refine lv_iload_n hx hb d_L_horner_I_0 rfl (lv_at hl 1 rfl) ?_
  refine pu_i (As := [.int x1]) (rest := []) ⟨hx, hb, hml, hown, hts⟩ (c_L_isStore_I l _ x1) pu_pre (gw_call (k := 1) hts tw_290 tw_291 tw_1 tw_292 (by decide +kernel) rfl rfl ⟨Nat.le_of_ble_eq_true rfl, Nat.le_of_ble_eq_true rfl⟩) rfl hl.1 rfl (Nat.le_of_ble_eq_true rfl) ⟨Nat.zero_le _, Nat.zero_le _⟩ d_L_horner_I_1 ?_
  refine lv_if_ne (tgt := 9) hx hb d_L_horner_I_4 (by decide) (fun c1 => ?_) (fun c1 => ?_)
  · refine lv_aload_n hx hb d_L_horner_I_9 rfl (lv_at hl 0 rfl) ?_
    refine va_get (D := (dC, dI)) (ci := 0) (v := .ref (ad 2)) (C := R_L) (T := F_L) (N := 2) hx hb hts (fun w h => gm (i_L w h)) hown hK G.1 0 rfl rfl 1 (by decide) (hts _ (gm tw_58)) (fun _ h9 => h9) rfl d_L_horner_I_10 ?_
    refine lv_bipush (v := (7 : Int32)) hx hb d_L_horner_I_13 (by decide) ?_
    refine va_lald hx hb hK G.1 2 0 rfl rfl (in_of (by decide) (by decide)) d_L_horner_I_15 ?_
    refine lv_topl (fun v2 e2 => ?_)
    refine lv_lstore_n (lv' := [(2, .long v2), (0, .ref (ad 0)), (1, .int x1)]) hx hb d_L_horner_I_16 rfl hl (by decide) rfl (fun ls hl => ?_)
    refine lv_bipush (v := (6 : Int32)) hx hb d_L_horner_I_17 (by decide) ?_
    refine lv_istore (lv' := [(4, .int (6 : Int32)), (2, .long v2), (0, .ref (ad 0)), (1, .int x1)]) hx hb d_L_horner_I_19 hl (by decide) rfl (fun ls hl => ?_)
    refine lv_iload hx hb d_L_horner_I_21 (lv_at hl 0 rfl) ?_
    refine lv_if_lt (tgt := 53) hx hb d_L_horner_I_23 (by decide) (fun c0 => absurd c0 (by decide)) (fun _ => ?_)
    refine lv_lload_n hx hb d_L_horner_I_26 rfl (lv_at hl 1 rfl) ?_
    refine lv_aload_n hx hb d_L_horner_I_27 rfl (lv_at hl 2 rfl) ?_
    refine va_get (D := (dC, dI)) (ci := 0) (v := .ref (ad 2)) (C := R_L) (T := F_L) (N := 2) hx hb hts (fun w h => gm (i_L w h)) hown hK G.1 0 rfl rfl 1 (by decide) (hts _ (gm tw_58)) (fun _ h9 => h9) rfl d_L_horner_I_28 ?_
    refine lv_iload_n hx hb d_L_horner_I_31 rfl (lv_at hl 3 rfl) ?_
    refine va_lald hx hb hK G.1 2 0 rfl rfl (in_isStore c1) d_L_horner_I_32 ?_
    refine pu_l (As := [.long v2, .long (sT S x1.toNatClampNeg)]) (rest := []) ⟨hx, hb, hml, hown, hts⟩ (c_I_product_JJ l _ v2 (sT S x1.toNatClampNeg)) pu_pre (gw_call (k := 2) hts tw_303 tw_175 tw_5 tw_176 (by decide +kernel) rfl rfl ⟨Nat.le_of_ble_eq_true rfl, Nat.le_of_ble_eq_true rfl⟩) rfl hl.1 rfl (Nat.le_of_ble_eq_true rfl) ⟨Nat.zero_le _, Nat.zero_le _⟩ d_L_horner_I_33 ?_
    refine lv_aload_n hx hb d_L_horner_I_36 rfl (lv_at hl 2 rfl) ?_
    refine va_get (D := (dC, dI)) (ci := 0) (v := .ref (ad 2)) (C := R_L) (T := F_L) (N := 2) hx hb hts (fun w h => gm (i_L w h)) hown hK G.1 0 rfl rfl 1 (by decide) (hts _ (gm tw_58)) (fun _ h9 => h9) rfl d_L_horner_I_37 ?_
    refine lv_iload hx hb d_L_horner_I_40 (lv_at hl 0 rfl) ?_
    refine va_lald hx hb hK G.1 2 0 rfl rfl (in_of (by decide) (by decide)) d_L_horner_I_42 ?_
    refine pu_l (As := [.long (f_I_product_JJ v2 (sT S x1.toNatClampNeg)), .long (sT S (6 : Int32).toNatClampNeg)]) (rest := []) ⟨hx, hb, hml, hown, hts⟩ (c_I_sum_JJ l _ (f_I_product_JJ v2 (sT S x1.toNatClampNeg)) (sT S (6 : Int32).toNatClampNeg)) pu_pre (gw_call (k := 2) hts tw_301 tw_192 tw_5 tw_193 (by decide +kernel) rfl rfl ⟨Nat.le_of_ble_eq_true rfl, Nat.le_of_ble_eq_true rfl⟩) rfl hl.1 rfl (Nat.le_of_ble_eq_true rfl) ⟨Nat.zero_le _, Nat.zero_le _⟩ d_L_horner_I_43 ?_
    refine lv_topl (fun v3 e3 => ?_)
    refine lv_lstore_n (lv' := [(2, .long v3), (4, .int (6 : Int32)), (0, .ref (ad 0)), (1, .int x1)]) hx hb d_L_horner_I_46 rfl hl (by decide) rfl (fun ls hl => ?_)
    refine lv_iinc (v := (5 : Int32)) (lv' := [(4, .int (5 : Int32)), (2, .long v3), (0, .ref (ad 0)), (1, .int x1)]) hx hb d_L_horner_I_47 hl (k := 1) rfl (by decide) (by decide) rfl (fun ls hl => ?_)
    refine lv_goto (tgt := 21) hx hb d_L_horner_I_50 (by decide) ?_
    refine lv_iload hx hb d_L_horner_I_21 (lv_at hl 0 rfl) ?_
    refine lv_if_lt (tgt := 53) hx hb d_L_horner_I_23 (by decide) (fun c0 => absurd c0 (by decide)) (fun _ => ?_)
    refine lv_lload_n hx hb d_L_horner_I_26 rfl (lv_at hl 1 rfl) ?_
    refine lv_aload_n hx hb d_L_horner_I_27 rfl (lv_at hl 2 rfl) ?_
    refine va_get (D := (dC, dI)) (ci := 0) (v := .ref (ad 2)) (C := R_L) (T := F_L) (N := 2) hx hb hts (fun w h => gm (i_L w h)) hown hK G.1 0 rfl rfl 1 (by decide) (hts _ (gm tw_58)) (fun _ h9 => h9) rfl d_L_horner_I_28 ?_
    refine lv_iload_n hx hb d_L_horner_I_31 rfl (lv_at hl 3 rfl) ?_
    refine va_lald hx hb hK G.1 2 0 rfl rfl (in_isStore c1) d_L_horner_I_32 ?_
    refine pu_l (As := [.long v3, .long (sT S x1.toNatClampNeg)]) (rest := []) ⟨hx, hb, hml, hown, hts⟩ (c_I_product_JJ l _ v3 (sT S x1.toNatClampNeg)) pu_pre (gw_call (k := 2) hts tw_303 tw_175 tw_5 tw_176 (by decide +kernel) rfl rfl ⟨Nat.le_of_ble_eq_true rfl, Nat.le_of_ble_eq_true rfl⟩) rfl hl.1 rfl (Nat.le_of_ble_eq_true rfl) ⟨Nat.zero_le _, Nat.zero_le _⟩ d_L_horner_I_33 ?_
    refine lv_aload_n hx hb d_L_horner_I_36 rfl (lv_at hl 2 rfl) ?_
    refine va_get (D := (dC, dI)) (ci := 0) (v := .ref (ad 2)) (C := R_L) (T := F_L) (N := 2) hx hb hts (fun w h => gm (i_L w h)) hown hK G.1 0 rfl rfl 1 (by decide) (hts _ (gm tw_58)) (fun _ h9 => h9) rfl d_L_horner_I_37 ?_
    refine lv_iload hx hb d_L_horner_I_40 (lv_at hl 0 rfl) ?_
    refine va_lald hx hb hK G.1 2 0 rfl rfl (in_of (by decide) (by decide)) d_L_horner_I_42 ?_
    refine pu_l (As := [.long (f_I_product_JJ v3 (sT S x1.toNatClampNeg)), .long (sT S (5 : Int32).toNatClampNeg)]) (rest := []) ⟨hx, hb, hml, hown, hts⟩ (c_I_sum_JJ l _ (f_I_product_JJ v3 (sT S x1.toNatClampNeg)) (sT S (5 : Int32).toNatClampNeg)) pu_pre (gw_call (k := 2) hts tw_301 tw_192 tw_5 tw_193 (by decide +kernel) rfl rfl ⟨Nat.le_of_ble_eq_true rfl, Nat.le_of_ble_eq_true rfl⟩) rfl hl.1 rfl (Nat.le_of_ble_eq_true rfl) ⟨Nat.zero_le _, Nat.zero_le _⟩ d_L_horner_I_43 ?_
    refine lv_topl (fun v4 e4 => ?_)
    refine lv_lstore_n (lv' := [(2, .long v4), (4, .int (5 : Int32)), (0, .ref (ad 0)), (1, .int x1)]) hx hb d_L_horner_I_46 rfl hl (by decide) rfl (fun ls hl => ?_)
    refine lv_iinc (v := (4 : Int32)) (lv' := [(4, .int (4 : Int32)), (2, .long v4), (0, .ref (ad 0)), (1, .int x1)]) hx hb d_L_horner_I_47 hl (k := 1) rfl (by decide) (by decide) rfl (fun ls hl => ?_)
    refine lv_goto (tgt := 21) hx hb d_L_horner_I_50 (by decide) ?_
    refine lv_iload hx hb d_L_horner_I_21 (lv_at hl 0 rfl) ?_
    refine lv_if_lt (tgt := 53) hx hb d_L_horner_I_23 (by decide) (fun c0 => absurd c0 (by decide)) (fun _ => ?_)
    refine lv_lload_n hx hb d_L_horner_I_26 rfl (lv_at hl 1 rfl) ?_
    refine lv_aload_n hx hb d_L_horner_I_27 rfl (lv_at hl 2 rfl) ?_
    refine va_get (D := (dC, dI)) (ci := 0) (v := .ref (ad 2)) (C := R_L) (T := F_L) (N := 2) hx hb hts (fun w h => gm (i_L w h)) hown hK G.1 0 rfl rfl 1 (by decide) (hts _ (gm tw_58)) (fun _ h9 => h9) rfl d_L_horner_I_28 ?_
    refine lv_iload_n hx hb d_L_horner_I_31 rfl (lv_at hl 3 rfl) ?_
    refine va_lald hx hb hK G.1 2 0 rfl rfl (in_isStore c1) d_L_horner_I_32 ?_
    refine pu_l (As := [.long v4, .long (sT S x1.toNatClampNeg)]) (rest := []) ⟨hx, hb, hml, hown, hts⟩ (c_I_product_JJ l _ v4 (sT S x1.toNatClampNeg)) pu_pre (gw_call (k := 2) hts tw_303 tw_175 tw_5 tw_176 (by decide +kernel) rfl rfl ⟨Nat.le_of_ble_eq_true rfl, Nat.le_of_ble_eq_true rfl⟩) rfl hl.1 rfl (Nat.le_of_ble_eq_true rfl) ⟨Nat.zero_le _, Nat.zero_le _⟩ d_L_horner_I_33 ?_
    refine lv_aload_n hx hb d_L_horner_I_36 rfl (lv_at hl 2 rfl) ?_
    refine va_get (D := (dC, dI)) (ci := 0) (v := .ref (ad 2)) (C := R_L) (T := F_L) (N := 2) hx hb hts (fun w h => gm (i_L w h)) hown hK G.1 0 rfl rfl 1 (by decide) (hts _ (gm tw_58)) (fun _ h9 => h9) rfl d_L_horner_I_37 ?_
    refine lv_iload hx hb d_L_horner_I_40 (lv_at hl 0 rfl) ?_
    refine va_lald hx hb hK G.1 2 0 rfl rfl (in_of (by decide) (by decide)) d_L_horner_I_42 ?_
    refine pu_l (As := [.long (f_I_product_JJ v4 (sT S x1.toNatClampNeg)), .long (sT S (4 : Int32).toNatClampNeg)]) (rest := []) ⟨hx, hb, hml, hown, hts⟩ (c_I_sum_JJ l _ (f_I_product_JJ v4 (sT S x1.toNatClampNeg)) (sT S (4 : Int32).toNatClampNeg)) pu_pre (gw_call (k := 2) hts tw_301 tw_192 tw_5 tw_193 (by decide +kernel) rfl rfl ⟨Nat.le_of_ble_eq_true rfl, Nat.le_of_ble_eq_true rfl⟩) rfl hl.1 rfl (Nat.le_of_ble_eq_true rfl) ⟨Nat.zero_le _, Nat.zero_le _⟩ d_L_horner_I_43 ?_
    refine lv_topl (fun v5 e5 => ?_)
    refine lv_lstore_n (lv' := [(2, .long v5), (4, .int (4 : Int32)), (0, .ref (ad 0)), (1, .int x1)]) hx hb d_L_horner_I_46 rfl hl (by decide) rfl (fun ls hl => ?_)
    refine lv_iinc (v := (3 : Int32)) (lv' := [(4, .int (3 : Int32)), (2, .long v5), (0, .ref (ad 0)), (1, .int x1)]) hx hb d_L_horner_I_47 hl (k := 1) rfl (by decide) (by decide) rfl (fun ls hl => ?_)
    refine lv_goto (tgt := 21) hx hb d_L_horner_I_50 (by decide) ?_
    refine lv_iload hx hb d_L_horner_I_21 (lv_at hl 0 rfl) ?_
    refine lv_if_lt (tgt := 53) hx hb d_L_horner_I_23 (by decide) (fun c0 => absurd c0 (by decide)) (fun _ => ?_)
    refine lv_lload_n hx hb d_L_horner_I_26 rfl (lv_at hl 1 rfl) ?_
    refine lv_aload_n hx hb d_L_horner_I_27 rfl (lv_at hl 2 rfl) ?_
    refine va_get (D := (dC, dI)) (ci := 0) (v := .ref (ad 2)) (C := R_L) (T := F_L) (N := 2) hx hb hts (fun w h => gm (i_L w h)) hown hK G.1 0 rfl rfl 1 (by decide) (hts _ (gm tw_58)) (fun _ h9 => h9) rfl d_L_horner_I_28 ?_
    refine lv_iload_n hx hb d_L_horner_I_31 rfl (lv_at hl 3 rfl) ?_
    refine va_lald hx hb hK G.1 2 0 rfl rfl (in_isStore c1) d_L_horner_I_32 ?_
    refine pu_l (As := [.long v5, .long (sT S x1.toNatClampNeg)]) (rest := []) ⟨hx, hb, hml, hown, hts⟩ (c_I_product_JJ l _ v5 (sT S x1.toNatClampNeg)) pu_pre (gw_call (k := 2) hts tw_303 tw_175 tw_5 tw_176 (by decide +kernel) rfl rfl ⟨Nat.le_of_ble_eq_true rfl, Nat.le_of_ble_eq_true rfl⟩) rfl hl.1 rfl (Nat.le_of_ble_eq_true rfl) ⟨Nat.zero_le _, Nat.zero_le _⟩ d_L_horner_I_33 ?_
    refine lv_aload_n hx hb d_L_horner_I_36 rfl (lv_at hl 2 rfl) ?_
    refine va_get (D := (dC, dI)) (ci := 0) (v := .ref (ad 2)) (C := R_L) (T := F_L) (N := 2) hx hb hts (fun w h => gm (i_L w h)) hown hK G.1 0 rfl rfl 1 (by decide) (hts _ (gm tw_58)) (fun _ h9 => h9) rfl d_L_horner_I_37 ?_
    refine lv_iload hx hb d_L_horner_I_40 (lv_at hl 0 rfl) ?_
    refine va_lald hx hb hK G.1 2 0 rfl rfl (in_of (by decide) (by decide)) d_L_horner_I_42 ?_
    refine pu_l (As := [.long (f_I_product_JJ v5 (sT S x1.toNatClampNeg)), .long (sT S (3 : Int32).toNatClampNeg)]) (rest := []) ⟨hx, hb, hml, hown, hts⟩ (c_I_sum_JJ l _ (f_I_product_JJ v5 (sT S x1.toNatClampNeg)) (sT S (3 : Int32).toNatClampNeg)) pu_pre (gw_call (k := 2) hts tw_301 tw_192 tw_5 tw_193 (by decide +kernel) rfl rfl ⟨Nat.le_of_ble_eq_true rfl, Nat.le_of_ble_eq_true rfl⟩) rfl hl.1 rfl (Nat.le_of_ble_eq_true rfl) ⟨Nat.zero_le _, Nat.zero_le _⟩ d_L_horner_I_43 ?_
    refine lv_topl (fun v6 e6 => ?_)
    refine lv_lstore_n (lv' := [(2, .long v6), (4, .int (3 : Int32)), (0, .ref (ad 0)), (1, .int x1)]) hx hb d_L_horner_I_46 rfl hl (by decide) rfl (fun ls hl => ?_)
    refine lv_iinc (v := (2 : Int32)) (lv' := [(4, .int (2 : Int32)), (2, .long v6), (0, .ref (ad 0)), (1, .int x1)]) hx hb d_L_horner_I_47 hl (k := 1) rfl (by decide) (by decide) rfl (fun ls hl => ?_)
    refine lv_goto (tgt := 21) hx hb d_L_horner_I_50 (by decide) ?_
    refine lv_iload hx hb d_L_horner_I_21 (lv_at hl 0 rfl) ?_
    refine lv_if_lt (tgt := 53) hx hb d_L_horner_I_23 (by decide) (fun c0 => absurd c0 (by decide)) (fun _ => ?_)
    refine lv_lload_n hx hb d_L_horner_I_26 rfl (lv_at hl 1 rfl) ?_
    refine lv_aload_n hx hb d_L_horner_I_27 rfl (lv_at hl 2 rfl) ?_
    refine va_get (D := (dC, dI)) (ci := 0) (v := .ref (ad 2)) (C := R_L) (T := F_L) (N := 2) hx hb hts (fun w h => gm (i_L w h)) hown hK G.1 0 rfl rfl 1 (by decide) (hts _ (gm tw_58)) (fun _ h9 => h9) rfl d_L_horner_I_28 ?_
    refine lv_iload_n hx hb d_L_horner_I_31 rfl (lv_at hl 3 rfl) ?_
    refine va_lald hx hb hK G.1 2 0 rfl rfl (in_isStore c1) d_L_horner_I_32 ?_
    refine pu_l (As := [.long v6, .long (sT S x1.toNatClampNeg)]) (rest := []) ⟨hx, hb, hml, hown, hts⟩ (c_I_product_JJ l _ v6 (sT S x1.toNatClampNeg)) pu_pre (gw_call (k := 2) hts tw_303 tw_175 tw_5 tw_176 (by decide +kernel) rfl rfl ⟨Nat.le_of_ble_eq_true rfl, Nat.le_of_ble_eq_true rfl⟩) rfl hl.1 rfl (Nat.le_of_ble_eq_true rfl) ⟨Nat.zero_le _, Nat.zero_le _⟩ d_L_horner_I_33 ?_
    refine lv_aload_n hx hb d_L_horner_I_36 rfl (lv_at hl 2 rfl) ?_
    refine va_get (D := (dC, dI)) (ci := 0) (v := .ref (ad 2)) (C := R_L) (T := F_L) (N := 2) hx hb hts (fun w h => gm (i_L w h)) hown hK G.1 0 rfl rfl 1 (by decide) (hts _ (gm tw_58)) (fun _ h9 => h9) rfl d_L_horner_I_37 ?_
    refine lv_iload hx hb d_L_horner_I_40 (lv_at hl 0 rfl) ?_
    refine va_lald hx hb hK G.1 2 0 rfl rfl (in_of (by decide) (by decide)) d_L_horner_I_42 ?_
    refine pu_l (As := [.long (f_I_product_JJ v6 (sT S x1.toNatClampNeg)), .long (sT S (2 : Int32).toNatClampNeg)]) (rest := []) ⟨hx, hb, hml, hown, hts⟩ (c_I_sum_JJ l _ (f_I_product_JJ v6 (sT S x1.toNatClampNeg)) (sT S (2 : Int32).toNatClampNeg)) pu_pre (gw_call (k := 2) hts tw_301 tw_192 tw_5 tw_193 (by decide +kernel) rfl rfl ⟨Nat.le_of_ble_eq_true rfl, Nat.le_of_ble_eq_true rfl⟩) rfl hl.1 rfl (Nat.le_of_ble_eq_true rfl) ⟨Nat.zero_le _, Nat.zero_le _⟩ d_L_horner_I_43 ?_
    refine lv_topl (fun v7 e7 => ?_)
    refine lv_lstore_n (lv' := [(2, .long v7), (4, .int (2 : Int32)), (0, .ref (ad 0)), (1, .int x1)]) hx hb d_L_horner_I_46 rfl hl (by decide) rfl (fun ls hl => ?_)
    refine lv_iinc (v := (1 : Int32)) (lv' := [(4, .int (1 : Int32)), (2, .long v7), (0, .ref (ad 0)), (1, .int x1)]) hx hb d_L_horner_I_47 hl (k := 1) rfl (by decide) (by decide) rfl (fun ls hl => ?_)
    refine lv_goto (tgt := 21) hx hb d_L_horner_I_50 (by decide) ?_
    refine lv_iload hx hb d_L_horner_I_21 (lv_at hl 0 rfl) ?_
    refine lv_if_lt (tgt := 53) hx hb d_L_horner_I_23 (by decide) (fun c0 => absurd c0 (by decide)) (fun _ => ?_)
    refine lv_lload_n hx hb d_L_horner_I_26 rfl (lv_at hl 1 rfl) ?_
    refine lv_aload_n hx hb d_L_horner_I_27 rfl (lv_at hl 2 rfl) ?_
    refine va_get (D := (dC, dI)) (ci := 0) (v := .ref (ad 2)) (C := R_L) (T := F_L) (N := 2) hx hb hts (fun w h => gm (i_L w h)) hown hK G.1 0 rfl rfl 1 (by decide) (hts _ (gm tw_58)) (fun _ h9 => h9) rfl d_L_horner_I_28 ?_
    refine lv_iload_n hx hb d_L_horner_I_31 rfl (lv_at hl 3 rfl) ?_
    refine va_lald hx hb hK G.1 2 0 rfl rfl (in_isStore c1) d_L_horner_I_32 ?_
    refine pu_l (As := [.long v7, .long (sT S x1.toNatClampNeg)]) (rest := []) ⟨hx, hb, hml, hown, hts⟩ (c_I_product_JJ l _ v7 (sT S x1.toNatClampNeg)) pu_pre (gw_call (k := 2) hts tw_303 tw_175 tw_5 tw_176 (by decide +kernel) rfl rfl ⟨Nat.le_of_ble_eq_true rfl, Nat.le_of_ble_eq_true rfl⟩) rfl hl.1 rfl (Nat.le_of_ble_eq_true rfl) ⟨Nat.zero_le _, Nat.zero_le _⟩ d_L_horner_I_33 ?_
    refine lv_aload_n hx hb d_L_horner_I_36 rfl (lv_at hl 2 rfl) ?_
    refine va_get (D := (dC, dI)) (ci := 0) (v := .ref (ad 2)) (C := R_L) (T := F_L) (N := 2) hx hb hts (fun w h => gm (i_L w h)) hown hK G.1 0 rfl rfl 1 (by decide) (hts _ (gm tw_58)) (fun _ h9 => h9) rfl d_L_horner_I_37 ?_
    refine lv_iload hx hb d_L_horner_I_40 (lv_at hl 0 rfl) ?_
    refine va_lald hx hb hK G.1 2 0 rfl rfl (in_of (by decide) (by decide)) d_L_horner_I_42 ?_
    refine pu_l (As := [.long (f_I_product_JJ v7 (sT S x1.toNatClampNeg)), .long (sT S (1 : Int32).toNatClampNeg)]) (rest := []) ⟨hx, hb, hml, hown, hts⟩ (c_I_sum_JJ l _ (f_I_product_JJ v7 (sT S x1.toNatClampNeg)) (sT S (1 : Int32).toNatClampNeg)) pu_pre (gw_call (k := 2) hts tw_301 tw_192 tw_5 tw_193 (by decide +kernel) rfl rfl ⟨Nat.le_of_ble_eq_true rfl, Nat.le_of_ble_eq_true rfl⟩) rfl hl.1 rfl (Nat.le_of_ble_eq_true rfl) ⟨Nat.zero_le _, Nat.zero_le _⟩ d_L_horner_I_43 ?_
    refine lv_topl (fun v8 e8 => ?_)
    refine lv_lstore_n (lv' := [(2, .long v8), (4, .int (1 : Int32)), (0, .ref (ad 0)), (1, .int x1)]) hx hb d_L_horner_I_46 rfl hl (by decide) rfl (fun ls hl => ?_)
    refine lv_iinc (v := (0 : Int32)) (lv' := [(4, .int (0 : Int32)), (2, .long v8), (0, .ref (ad 0)), (1, .int x1)]) hx hb d_L_horner_I_47 hl (k := 1) rfl (by decide) (by decide) rfl (fun ls hl => ?_)
    refine lv_goto (tgt := 21) hx hb d_L_horner_I_50 (by decide) ?_
    refine lv_iload hx hb d_L_horner_I_21 (lv_at hl 0 rfl) ?_
    refine lv_if_lt (tgt := 53) hx hb d_L_horner_I_23 (by decide) (fun c0 => absurd c0 (by decide)) (fun _ => ?_)
    refine lv_lload_n hx hb d_L_horner_I_26 rfl (lv_at hl 1 rfl) ?_
    refine lv_aload_n hx hb d_L_horner_I_27 rfl (lv_at hl 2 rfl) ?_
    refine va_get (D := (dC, dI)) (ci := 0) (v := .ref (ad 2)) (C := R_L) (T := F_L) (N := 2) hx hb hts (fun w h => gm (i_L w h)) hown hK G.1 0 rfl rfl 1 (by decide) (hts _ (gm tw_58)) (fun _ h9 => h9) rfl d_L_horner_I_28 ?_
    refine lv_iload_n hx hb d_L_horner_I_31 rfl (lv_at hl 3 rfl) ?_
    refine va_lald hx hb hK G.1 2 0 rfl rfl (in_isStore c1) d_L_horner_I_32 ?_
    refine pu_l (As := [.long v8, .long (sT S x1.toNatClampNeg)]) (rest := []) ⟨hx, hb, hml, hown, hts⟩ (c_I_product_JJ l _ v8 (sT S x1.toNatClampNeg)) pu_pre (gw_call (k := 2) hts tw_303 tw_175 tw_5 tw_176 (by decide +kernel) rfl rfl ⟨Nat.le_of_ble_eq_true rfl, Nat.le_of_ble_eq_true rfl⟩) rfl hl.1 rfl (Nat.le_of_ble_eq_true rfl) ⟨Nat.zero_le _, Nat.zero_le _⟩ d_L_horner_I_33 ?_
    refine lv_aload_n hx hb d_L_horner_I_36 rfl (lv_at hl 2 rfl) ?_
    refine va_get (D := (dC, dI)) (ci := 0) (v := .ref (ad 2)) (C := R_L) (T := F_L) (N := 2) hx hb hts (fun w h => gm (i_L w h)) hown hK G.1 0 rfl rfl 1 (by decide) (hts _ (gm tw_58)) (fun _ h9 => h9) rfl d_L_horner_I_37 ?_
    refine lv_iload hx hb d_L_horner_I_40 (lv_at hl 0 rfl) ?_
    refine va_lald hx hb hK G.1 2 0 rfl rfl (in_of (by decide) (by decide)) d_L_horner_I_42 ?_
    refine pu_l (As := [.long (f_I_product_JJ v8 (sT S x1.toNatClampNeg)), .long (sT S (0 : Int32).toNatClampNeg)]) (rest := []) ⟨hx, hb, hml, hown, hts⟩ (c_I_sum_JJ l _ (f_I_product_JJ v8 (sT S x1.toNatClampNeg)) (sT S (0 : Int32).toNatClampNeg)) pu_pre (gw_call (k := 2) hts tw_301 tw_192 tw_5 tw_193 (by decide +kernel) rfl rfl ⟨Nat.le_of_ble_eq_true rfl, Nat.le_of_ble_eq_true rfl⟩) rfl hl.1 rfl (Nat.le_of_ble_eq_true rfl) ⟨Nat.zero_le _, Nat.zero_le _⟩ d_L_horner_I_43 ?_
    refine lv_topl (fun v9 e9 => ?_)
    refine lv_lstore_n (lv' := [(2, .long v9), (4, .int (0 : Int32)), (0, .ref (ad 0)), (1, .int x1)]) hx hb d_L_horner_I_46 rfl hl (by decide) rfl (fun ls hl => ?_)
    refine lv_iinc (v := (-1 : Int32)) (lv' := [(4, .int (-1 : Int32)), (2, .long v9), (0, .ref (ad 0)), (1, .int x1)]) hx hb d_L_horner_I_47 hl (k := 1) rfl (by decide) (by decide) rfl (fun ls hl => ?_)
    refine lv_goto (tgt := 21) hx hb d_L_horner_I_50 (by decide) ?_
    refine lv_iload hx hb d_L_horner_I_21 (lv_at hl 0 rfl) ?_
    refine lv_if_lt (tgt := 53) hx hb d_L_horner_I_23 (by decide) (fun _ => ?_) (fun c0 => absurd c0 (by decide))
    refine lv_lload_n hx hb d_L_horner_I_53 rfl (lv_at hl 1 rfl) ?_
    exact hg_lret hx hb hr hlocks hK hAe G (by have e9 : f_L_horner_I S x1 = v9 := (by have qe2 := e2.symm; have qe3 := e3.symm; have qe4 := e4.symm; have qe5 := e5.symm; have qe6 := e6.symm; have qe7 := e7.symm; have qe8 := e8.symm; have qe9 := e9.symm; subst qe2 qe3 qe4 qe5 qe6 qe7 qe8 qe9; exact (if_neg c1)); exact ⟨Eq.symm e9, rfl⟩) d_L_horner_I_54
  · refine lv_lconst (v := (1 : Int64)) hx hb d_L_horner_I_7 (by decide) ?_
    exact hg_lret hx hb hr hlocks hK hAe G (by have e9 : f_L_horner_I S x1 = (1 : Int64) := (by exact (if_pos c1)); exact ⟨Eq.symm e9, rfl⟩) d_L_horner_I_8
-- ===== MotionLab.single(I)I 
abbrev y_L_single_I : MethodName := ⟨"MotionLab", "single", "(I)I"⟩
abbrev b_L_single_I : ByteArray := prog_1_method_17_code
theorem d_L_single_I_0 : decode b_L_single_I 0 = .ok (.iload_n 1, 1) := by decide +kernel
theorem d_L_single_I_1 : decode b_L_single_I 1 = .ok (.invokestatic 76, 3) := by decide +kernel
theorem d_L_single_I_4 : decode b_L_single_I 4 = .ok (.ifCond .eq 18, 3) := by decide +kernel
theorem d_L_single_I_7 : decode b_L_single_I 7 = .ok (.aload_n 0, 1) := by decide +kernel
theorem d_L_single_I_8 : decode b_L_single_I 8 = .ok (.getfield 16, 3) := by decide +kernel
theorem d_L_single_I_11 : decode b_L_single_I 11 = .ok (.iload_n 1, 1) := by decide +kernel
theorem d_L_single_I_12 : decode b_L_single_I 12 = .ok (.laload, 1) := by decide +kernel
theorem d_L_single_I_13 : decode b_L_single_I 13 = .ok (.invokestatic 125, 3) := by decide +kernel
theorem d_L_single_I_16 : decode b_L_single_I 16 = .ok (.invokestatic 128, 3) := by decide +kernel
theorem d_L_single_I_19 : decode b_L_single_I 19 = .ok (.goto 4, 3) := by decide +kernel
theorem d_L_single_I_22 : decode b_L_single_I 22 = .ok (.iconst 1, 1) := by decide +kernel
theorem d_L_single_I_23 : decode b_L_single_I 23 = .ok (.ireturn, 1) := by decide +kernel
def f_L_single_I (S : CS) (x1 : Int32) : Int32 :=
  if (f_L_isStore_I x1) = 0 then
    (1 : Int32)
  else
    f_I_floatBits_J (f_I_toFloat_J (sT S x1.toNatClampNeg))
set_option maxHeartbeats 2000000 in
set_option maxRecDepth 100000 in
theorem c_L_single_I (l : Launch) (dC : Nat → ClassId) (dI : Nat → Nat → Nat) (ad : Nat → Nat) (cJ cI : ClassId) (S : CS) (x1 : Int32) (sz : Nat) : hMi l y_L_single_I (gw y_L_single_I b_L_single_I 2 (some .int)) { frames := 5, cells := 0, slots := 0, locals := 117 } [.ref (ad 0), .int x1] (dC, dI) classes (tysJI cJ cI) (fun _ => True) (cW ad cJ cI S) sz (f_L_single_I S x1) (cW ad cJ cI S) := by
  refine Met.ofW (cc := b_L_single_I) (maxL := 2) (ret := (some .int)) (by decide) rfl ?_
  intro p e s m args below meth c s₁ B hml hv
  obtain ⟨rfl, hsz, hP, hK, hD0, hRT⟩ := hv
  have hx := B.exec
  have hb := B.bytes
  have hr := B.returns
  have hts := atoms_spec (ws := (gw y_L_single_I b_L_single_I 2 (some .int))) B.pre
  have hown : s.vm.findClass "MotionLab" = some m.cls := findClass_of_methodNamed B.named
  have hlocks := B.notSynchronized
  subst hsz
  have hD := hD0.self (sz := s.heap.size)
  generalize hAe : va_A (cW ad cJ cI S) s.heap.size = A at hD
  have hA : ∀ q : Nat, s.heap.size ≤ q → A q := fun q h => by rw [← hAe]; exact Or.inr h
  have G : hG (dC, dI) classes A s.heap (cW ad cJ cI S) s.heap [] := ⟨hP, hD, va_S.rf⟩
  have hl := lv_entry ([.ref (ad 0), .int x1]) (n := 2) (Nat.le_of_ble_eq_true rfl)
  rw [lg_entry_eq]
  generalize (lg_sl ([.ref (ad 0), .int x1]) ++ List.replicate (2 - (lg_sl ([.ref (ad 0), .int x1])).length) Slot.unset).toArray = ls at hl ⊢
  have hl : lv_has ls 2 [(0, .ref (ad 0)), (1, .int x1)] := hl
  refine lv_iload_n hx hb d_L_single_I_0 rfl (lv_at hl 1 rfl) ?_
  refine pu_i (As := [.int x1]) (rest := []) ⟨hx, hb, hml, hown, hts⟩ (c_L_isStore_I l _ x1) pu_pre (gw_call (k := 1) hts tw_290 tw_291 tw_1 tw_292 (by decide +kernel) rfl rfl ⟨Nat.le_of_ble_eq_true rfl, Nat.le_of_ble_eq_true rfl⟩) rfl hl.1 rfl (Nat.le_of_ble_eq_true rfl) ⟨Nat.zero_le _, Nat.zero_le _⟩ d_L_single_I_1 ?_
  refine lv_if_eq (tgt := 22) hx hb d_L_single_I_4 (by decide) (fun c1 => ?_) (fun c1 => ?_)
  · refine lv_iconst (v := 1) hx hb d_L_single_I_22 (by decide) ?_
    exact hg_iret hx hb hr hlocks hK hAe G (by have e9 : f_L_single_I S x1 = (1 : Int32) := (by exact (if_pos c1)); exact ⟨Eq.symm e9, rfl⟩) d_L_single_I_23
  · refine lv_aload_n hx hb d_L_single_I_7 rfl (lv_at hl 0 rfl) ?_
    refine va_get (D := (dC, dI)) (ci := 0) (v := .ref (ad 2)) (C := R_L) (T := F_L) (N := 2) hx hb hts (fun w h => gm (i_L w h)) hown hK G.1 0 rfl rfl 1 (by decide) (hts _ (gm tw_58)) (fun _ h9 => h9) rfl d_L_single_I_8 ?_
    refine lv_iload_n hx hb d_L_single_I_11 rfl (lv_at hl 1 rfl) ?_
    refine va_lald hx hb hK G.1 2 0 rfl rfl (in_isStore c1) d_L_single_I_12 ?_
    refine pu_l (As := [.long (sT S x1.toNatClampNeg)]) (rest := []) ⟨hx, hb, hml, hown, hts⟩ (c_I_toFloat_J l _ (sT S x1.toNatClampNeg)) pu_pre (gw_call (k := 1) hts tw_313 tw_79 tw_5 tw_80 (by decide +kernel) rfl rfl ⟨Nat.le_of_ble_eq_true rfl, Nat.le_of_ble_eq_true rfl⟩) rfl hl.1 rfl (Nat.le_of_ble_eq_true rfl) ⟨Nat.zero_le _, Nat.zero_le _⟩ d_L_single_I_13 ?_
    refine pu_i (As := [.long (f_I_toFloat_J (sT S x1.toNatClampNeg))]) (rest := []) ⟨hx, hb, hml, hown, hts⟩ (c_I_floatBits_J l _ (f_I_toFloat_J (sT S x1.toNatClampNeg))) pu_pre (gw_call (k := 1) hts tw_403 tw_404 tw_5 tw_405 (by decide +kernel) rfl rfl ⟨Nat.le_of_ble_eq_true rfl, Nat.le_of_ble_eq_true rfl⟩) rfl hl.1 rfl (Nat.le_of_ble_eq_true rfl) ⟨Nat.zero_le _, Nat.zero_le _⟩ d_L_single_I_16 ?_
    refine lv_goto (tgt := 23) hx hb d_L_single_I_19 (by decide) ?_
    exact hg_iret hx hb hr hlocks hK hAe G (by have e9 : f_L_single_I S x1 = f_I_floatBits_J (f_I_toFloat_J (sT S x1.toNatClampNeg)) := (by exact (if_neg c1)); exact ⟨Eq.symm e9, rfl⟩) d_L_single_I_23
-- ===== MotionLab.fromSingle(II)J 
abbrev y_L_fromSingle_II : MethodName := ⟨"MotionLab", "fromSingle", "(II)J"⟩
abbrev b_L_fromSingle_II : ByteArray := prog_1_method_18_code
theorem d_L_fromSingle_II_0 : decode b_L_fromSingle_II 0 = .ok (.iload_n 1, 1) := by decide +kernel
theorem d_L_fromSingle_II_1 : decode b_L_fromSingle_II 1 = .ok (.invokestatic 76, 3) := by decide +kernel
theorem d_L_fromSingle_II_4 : decode b_L_fromSingle_II 4 = .ok (.ifCond .ne 5, 3) := by decide +kernel
theorem d_L_fromSingle_II_7 : decode b_L_fromSingle_II 7 = .ok (.lconst 1, 1) := by decide +kernel
theorem d_L_fromSingle_II_8 : decode b_L_fromSingle_II 8 = .ok (.lreturn, 1) := by decide +kernel
theorem d_L_fromSingle_II_9 : decode b_L_fromSingle_II 9 = .ok (.aload_n 0, 1) := by decide +kernel
theorem d_L_fromSingle_II_10 : decode b_L_fromSingle_II 10 = .ok (.getfield 16, 3) := by decide +kernel
theorem d_L_fromSingle_II_13 : decode b_L_fromSingle_II 13 = .ok (.iload_n 1, 1) := by decide +kernel
theorem d_L_fromSingle_II_14 : decode b_L_fromSingle_II 14 = .ok (.iload_n 2, 1) := by decide +kernel
theorem d_L_fromSingle_II_15 : decode b_L_fromSingle_II 15 = .ok (.invokestatic 48, 3) := by decide +kernel
theorem d_L_fromSingle_II_18 : decode b_L_fromSingle_II 18 = .ok (.lastore, 1) := by decide +kernel
theorem d_L_fromSingle_II_19 : decode b_L_fromSingle_II 19 = .ok (.aload_n 0, 1) := by decide +kernel
theorem d_L_fromSingle_II_20 : decode b_L_fromSingle_II 20 = .ok (.getfield 16, 3) := by decide +kernel
theorem d_L_fromSingle_II_23 : decode b_L_fromSingle_II 23 = .ok (.iload_n 1, 1) := by decide +kernel
theorem d_L_fromSingle_II_24 : decode b_L_fromSingle_II 24 = .ok (.laload, 1) := by decide +kernel
theorem d_L_fromSingle_II_25 : decode b_L_fromSingle_II 25 = .ok (.lreturn, 1) := by decide +kernel
def f_L_fromSingle_II (S : CS) (x1 : Int32) (x2 : Int32) : Int64 × CS :=
  if (f_L_isStore_I x1) = 0 then
    ((1 : Int64), S)
  else
    let S2 : CS := u_sT S (vp_updL (sT S) x1.toNatClampNeg (f_I_ofFloatBits_I x2))
    (sT S2 x1.toNatClampNeg, S2)
set_option maxHeartbeats 2000000 in
set_option maxRecDepth 100000 in
theorem c_L_fromSingle_II (l : Launch) (dC : Nat → ClassId) (dI : Nat → Nat → Nat) (ad : Nat → Nat) (cJ cI : ClassId) (S : CS) (x1 : Int32) (x2 : Int32) (sz : Nat) : hMl l y_L_fromSingle_II (gw y_L_fromSingle_II b_L_fromSingle_II 3 (some .long)) { frames := 4, cells := 0, slots := 0, locals := 94 } [.ref (ad 0), .int x1, .int x2] (dC, dI) classes (tysJI cJ cI) (fun _ => True) (cW ad cJ cI S) sz (f_L_fromSingle_II S x1 x2).1 (cW ad cJ cI (f_L_fromSingle_II S x1 x2).2) := by
  refine Met.ofW (cc := b_L_fromSingle_II) (maxL := 3) (ret := (some .long)) (by decide) rfl ?_
  intro p e s m args below meth c s₁ B hml hv
  obtain ⟨rfl, hsz, hP, hK, hD0, hRT⟩ := hv
  have hx := B.exec
  have hb := B.bytes
  have hr := B.returns
  have hts := atoms_spec (ws := (gw y_L_fromSingle_II b_L_fromSingle_II 3 (some .long))) B.pre
  have hown : s.vm.findClass "MotionLab" = some m.cls := findClass_of_methodNamed B.named
  have hlocks := B.notSynchronized
  subst hsz
  have hD := hD0.self (sz := s.heap.size)
  generalize hAe : va_A (cW ad cJ cI S) s.heap.size = A at hD
  have hA : ∀ q : Nat, s.heap.size ≤ q → A q := fun q h => by rw [← hAe]; exact Or.inr h
  have G : hG (dC, dI) classes A s.heap (cW ad cJ cI S) s.heap [] := ⟨hP, hD, va_S.rf⟩
  have hl := lv_entry ([.ref (ad 0), .int x1, .int x2]) (n := 3) (Nat.le_of_ble_eq_true rfl)
  rw [lg_entry_eq]
  generalize (lg_sl ([.ref (ad 0), .int x1, .int x2]) ++ List.replicate (3 - (lg_sl ([.ref (ad 0), .int x1, .int x2])).length) Slot.unset).toArray = ls at hl ⊢
  have hl : lv_has ls 3 [(0, .ref (ad 0)), (1, .int x1), (2, .int x2)] := hl
  refine lv_iload_n hx hb d_L_fromSingle_II_0 rfl (lv_at hl 1 rfl) ?_
  refine pu_i (As := [.int x1]) (rest := []) ⟨hx, hb, hml, hown, hts⟩ (c_L_isStore_I l _ x1) pu_pre (gw_call (k := 1) hts tw_290 tw_291 tw_1 tw_292 (by decide +kernel) rfl rfl ⟨Nat.le_of_ble_eq_true rfl, Nat.le_of_ble_eq_true rfl⟩) rfl hl.1 rfl (Nat.le_of_ble_eq_true rfl) ⟨Nat.zero_le _, Nat.zero_le _⟩ d_L_fromSingle_II_1 ?_
  refine lv_if_ne (tgt := 9) hx hb d_L_fromSingle_II_4 (by decide) (fun c1 => ?_) (fun c1 => ?_)
  · refine lv_aload_n hx hb d_L_fromSingle_II_9 rfl (lv_at hl 0 rfl) ?_
    refine va_get (D := (dC, dI)) (ci := 0) (v := .ref (ad 2)) (C := R_L) (T := F_L) (N := 2) hx hb hts (fun w h => gm (i_L w h)) hown hK G.1 0 rfl rfl 1 (by decide) (hts _ (gm tw_58)) (fun _ h9 => h9) rfl d_L_fromSingle_II_10 ?_
    refine lv_iload_n hx hb d_L_fromSingle_II_13 rfl (lv_at hl 1 rfl) ?_
    refine lv_iload_n hx hb d_L_fromSingle_II_14 rfl (lv_at hl 2 rfl) ?_
    refine pu_l (As := [.int x2]) (rest := [.int x1, .ref (ad 2)]) ⟨hx, hb, hml, hown, hts⟩ (c_I_ofFloatBits_I l _ x2) pu_pre (gw_call (k := 1) hts tw_142 tw_143 tw_5 tw_144 (by decide +kernel) rfl rfl ⟨Nat.le_of_ble_eq_true rfl, Nat.le_of_ble_eq_true rfl⟩) rfl hl.1 rfl (Nat.le_of_ble_eq_true rfl) ⟨Nat.zero_le _, Nat.zero_le _⟩ d_L_fromSingle_II_15 ?_
    obtain ⟨S2, e2⟩ : ∃ z : CS, z = u_sT S (vp_updL (sT S) x1.toNatClampNeg (f_I_ofFloatBits_I x2)) := ⟨_, rfl⟩
    refine hg_last hx hb hK G 2 0 rfl rfl (in_isStore c1) d_L_fromSingle_II_18 (cW ad cJ cI S2) (by rw [e2]; rfl) (fun H locs G => ?_)
    refine lv_aload_n hx hb d_L_fromSingle_II_19 rfl (lv_at hl 0 rfl) ?_
    refine va_get (D := (dC, dI)) (ci := 0) (v := .ref (ad 2)) (C := R_L) (T := F_L) (N := 2) hx hb hts (fun w h => gm (i_L w h)) hown hK G.1 0 rfl rfl 1 (by decide) (hts _ (gm tw_58)) (fun _ h9 => h9) rfl d_L_fromSingle_II_20 ?_
    refine lv_iload_n hx hb d_L_fromSingle_II_23 rfl (lv_at hl 1 rfl) ?_
    refine va_lald hx hb hK G.1 2 0 rfl rfl (in_isStore c1) d_L_fromSingle_II_24 ?_
    exact hg_lret hx hb hr hlocks hK hAe G (by have e9 : f_L_fromSingle_II S x1 x2 = (sT S2 x1.toNatClampNeg, S2) := (by have qe2 := e2.symm; subst qe2; exact (if_neg c1)); exact ⟨Eq.symm (congrArg Prod.fst e9), Eq.symm (congrArg (fun z => cW ad cJ cI z.2) e9)⟩) d_L_fromSingle_II_25
  · refine lv_lconst (v := (1 : Int64)) hx hb d_L_fromSingle_II_7 (by decide) ?_
    exact hg_lret hx hb hr hlocks hK hAe G (by have e9 : f_L_fromSingle_II S x1 x2 = ((1 : Int64), S) := (by exact (if_pos c1)); exact ⟨Eq.symm (congrArg Prod.fst e9), Eq.symm (congrArg (fun z => cW ad cJ cI z.2) e9)⟩) d_L_fromSingle_II_8
-- ===== MotionLabModel.body(IIJ)I 
abbrev y_M_body_IIJ : MethodName := ⟨"MotionLabModel", "body", "(IIJ)I"⟩
abbrev b_M_body_IIJ : ByteArray := prog_6_method_33_code
theorem d_M_body_IIJ_0 : decode b_M_body_IIJ 0 = .ok (.iload_n 1, 1) := by decide +kernel
theorem d_M_body_IIJ_1 : decode b_M_body_IIJ 1 = .ok (.bipush 8, 2) := by decide +kernel
theorem d_M_body_IIJ_3 : decode b_M_body_IIJ 3 = .ok (.invokestatic 190, 3) := by decide +kernel
theorem d_M_body_IIJ_6 : decode b_M_body_IIJ 6 = .ok (.ifCond .eq 12, 3) := by decide +kernel
theorem d_M_body_IIJ_9 : decode b_M_body_IIJ 9 = .ok (.iload_n 2, 1) := by decide +kernel
theorem d_M_body_IIJ_10 : decode b_M_body_IIJ 10 = .ok (.bipush 6, 2) := by decide +kernel
theorem d_M_body_IIJ_12 : decode b_M_body_IIJ 12 = .ok (.invokestatic 190, 3) := by decide +kernel
theorem d_M_body_IIJ_15 : decode b_M_body_IIJ 15 = .ok (.ifCond .ne 5, 3) := by decide +kernel
theorem d_M_body_IIJ_18 : decode b_M_body_IIJ 18 = .ok (.iconst (-1), 1) := by decide +kernel
theorem d_M_body_IIJ_19 : decode b_M_body_IIJ 19 = .ok (.ireturn, 1) := by decide +kernel
theorem d_M_body_IIJ_20 : decode b_M_body_IIJ 20 = .ok (.iload_n 2, 1) := by decide +kernel
theorem d_M_body_IIJ_21 : decode b_M_body_IIJ 21 = .ok (.tableswitch 88 0 4 #[35, 45, 55, 65, 75], 35) := by decide +kernel
theorem d_M_body_IIJ_56 : decode b_M_body_IIJ 56 = .ok (.aload_n 0, 1) := by decide +kernel
theorem d_M_body_IIJ_57 : decode b_M_body_IIJ 57 = .ok (.getfield 133, 3) := by decide +kernel
theorem d_M_body_IIJ_60 : decode b_M_body_IIJ 60 = .ok (.iload_n 1, 1) := by decide +kernel
theorem d_M_body_IIJ_61 : decode b_M_body_IIJ 61 = .ok (.lload_n 3, 1) := by decide +kernel
theorem d_M_body_IIJ_62 : decode b_M_body_IIJ 62 = .ok (.lastore, 1) := by decide +kernel
theorem d_M_body_IIJ_63 : decode b_M_body_IIJ 63 = .ok (.goto 56, 3) := by decide +kernel
theorem d_M_body_IIJ_66 : decode b_M_body_IIJ 66 = .ok (.aload_n 0, 1) := by decide +kernel
theorem d_M_body_IIJ_67 : decode b_M_body_IIJ 67 = .ok (.getfield 137, 3) := by decide +kernel
theorem d_M_body_IIJ_70 : decode b_M_body_IIJ 70 = .ok (.iload_n 1, 1) := by decide +kernel
theorem d_M_body_IIJ_71 : decode b_M_body_IIJ 71 = .ok (.lload_n 3, 1) := by decide +kernel
theorem d_M_body_IIJ_72 : decode b_M_body_IIJ 72 = .ok (.lastore, 1) := by decide +kernel
theorem d_M_body_IIJ_73 : decode b_M_body_IIJ 73 = .ok (.goto 46, 3) := by decide +kernel
theorem d_M_body_IIJ_76 : decode b_M_body_IIJ 76 = .ok (.aload_n 0, 1) := by decide +kernel
theorem d_M_body_IIJ_77 : decode b_M_body_IIJ 77 = .ok (.getfield 140, 3) := by decide +kernel
theorem d_M_body_IIJ_80 : decode b_M_body_IIJ 80 = .ok (.iload_n 1, 1) := by decide +kernel
theorem d_M_body_IIJ_81 : decode b_M_body_IIJ 81 = .ok (.lload_n 3, 1) := by decide +kernel
theorem d_M_body_IIJ_82 : decode b_M_body_IIJ 82 = .ok (.lastore, 1) := by decide +kernel
theorem d_M_body_IIJ_83 : decode b_M_body_IIJ 83 = .ok (.goto 36, 3) := by decide +kernel
theorem d_M_body_IIJ_86 : decode b_M_body_IIJ 86 = .ok (.aload_n 0, 1) := by decide +kernel
theorem d_M_body_IIJ_87 : decode b_M_body_IIJ 87 = .ok (.getfield 143, 3) := by decide +kernel
theorem d_M_body_IIJ_90 : decode b_M_body_IIJ 90 = .ok (.iload_n 1, 1) := by decide +kernel
theorem d_M_body_IIJ_91 : decode b_M_body_IIJ 91 = .ok (.lload_n 3, 1) := by decide +kernel
theorem d_M_body_IIJ_92 : decode b_M_body_IIJ 92 = .ok (.lastore, 1) := by decide +kernel
theorem d_M_body_IIJ_93 : decode b_M_body_IIJ 93 = .ok (.goto 26, 3) := by decide +kernel
theorem d_M_body_IIJ_96 : decode b_M_body_IIJ 96 = .ok (.aload_n 0, 1) := by decide +kernel
theorem d_M_body_IIJ_97 : decode b_M_body_IIJ 97 = .ok (.getfield 146, 3) := by decide +kernel
theorem d_M_body_IIJ_100 : decode b_M_body_IIJ 100 = .ok (.iload_n 1, 1) := by decide +kernel
theorem d_M_body_IIJ_101 : decode b_M_body_IIJ 101 = .ok (.lload_n 3, 1) := by decide +kernel
theorem d_M_body_IIJ_102 : decode b_M_body_IIJ 102 = .ok (.invokestatic 194, 3) := by decide +kernel
theorem d_M_body_IIJ_105 : decode b_M_body_IIJ 105 = .ok (.lastore, 1) := by decide +kernel
theorem d_M_body_IIJ_106 : decode b_M_body_IIJ 106 = .ok (.goto 13, 3) := by decide +kernel
theorem d_M_body_IIJ_109 : decode b_M_body_IIJ 109 = .ok (.aload_n 0, 1) := by decide +kernel
theorem d_M_body_IIJ_110 : decode b_M_body_IIJ 110 = .ok (.getfield 149, 3) := by decide +kernel
theorem d_M_body_IIJ_113 : decode b_M_body_IIJ 113 = .ok (.iload_n 1, 1) := by decide +kernel
theorem d_M_body_IIJ_114 : decode b_M_body_IIJ 114 = .ok (.lload_n 3, 1) := by decide +kernel
theorem d_M_body_IIJ_115 : decode b_M_body_IIJ 115 = .ok (.invokestatic 194, 3) := by decide +kernel
theorem d_M_body_IIJ_118 : decode b_M_body_IIJ 118 = .ok (.lastore, 1) := by decide +kernel
theorem d_M_body_IIJ_119 : decode b_M_body_IIJ 119 = .ok (.iconst 0, 1) := by decide +kernel
theorem d_M_body_IIJ_120 : decode b_M_body_IIJ 120 = .ok (.ireturn, 1) := by decide +kernel
def f_M_body_IIJ (S : MS) (x1 : Int32) (x2 : Int32) (x3 : Int64) : Int32 × MS :=
  if (f_M_in_II x1 (8 : Int32)) = 0 then
    ((-1 : Int32), S)
  else
    if (f_M_in_II x2 (6 : Int32)) = 0 then
      ((-1 : Int32), S)
    else
      if x2 = 0 then
        let S4 : MS := u_m_x S (vp_updL (m_x S) x1.toNatClampNeg x3)
        ((0 : Int32), S4)
      else
        if x2 = 1 then
          let S6 : MS := u_m_y S (vp_updL (m_y S) x1.toNatClampNeg x3)
          ((0 : Int32), S6)
        else
          if x2 = 2 then
            let S8 : MS := u_m_u S (vp_updL (m_u S) x1.toNatClampNeg x3)
            ((0 : Int32), S8)
          else
            if x2 = 3 then
              let S10 : MS := u_m_v S (vp_updL (m_v S) x1.toNatClampNeg x3)
              ((0 : Int32), S10)
            else
              if x2 = 4 then
                let S12 : MS := u_m_m S (vp_updL (m_m S) x1.toNatClampNeg (f_M_toFloat_J x3))
                ((0 : Int32), S12)
              else
                let S13 : MS := u_m_r S (vp_updL (m_r S) x1.toNatClampNeg (f_M_toFloat_J x3))
                ((0 : Int32), S13)
set_option maxHeartbeats 2000000 in
set_option maxRecDepth 100000 in
theorem c_M_body_IIJ (l : Launch) (dC : Nat → ClassId) (dI : Nat → Nat → Nat) (ad : Nat → Nat) (cJ cI : ClassId) (t0 t1 t2 : Nat) (S : MS) (x1 : Int32) (x2 : Int32) (x3 : Int64) (sz : Nat) : hMi l y_M_body_IIJ (gw y_M_body_IIJ b_M_body_IIJ 5 (some .int)) { frames := 6, cells := 0, slots := 0, locals := 145 } [.ref (ad 0), .int x1, .int x2, .long x3] (dC, dI) classes (tysJI cJ cI) (hE_M t0 t1 t2 (mW ad cJ cI S) sz) (mW ad cJ cI S) sz (f_M_body_IIJ S x1 x2 x3).1 (mW ad cJ cI (f_M_body_IIJ S x1 x2 x3).2) := by
  refine Met.ofW (cc := b_M_body_IIJ) (maxL := 5) (ret := (some .int)) (by decide) rfl ?_
  intro p e s m args below meth c s₁ B hml hv
  obtain ⟨rfl, hsz, hP, hK, hD0, hRT⟩ := hv
  have hx := B.exec
  have hb := B.bytes
  have hr := B.returns
  have hts := atoms_spec (ws := (gw y_M_body_IIJ b_M_body_IIJ 5 (some .int))) B.pre
  have hown : s.vm.findClass "MotionLabModel" = some m.cls := findClass_of_methodNamed B.named
  have hlocks := B.notSynchronized
  subst hsz
  have hD := hD0.self (sz := s.heap.size)
  have hRT : RTA t0 t1 t2 (va_A (mW ad cJ cI S) s.heap.size) s s.heap := hRT
  generalize hAe : va_A (mW ad cJ cI S) s.heap.size = A at hD hRT
  have hA : ∀ q : Nat, s.heap.size ≤ q → A q := fun q h => by rw [← hAe]; exact Or.inr h
  have G : hG (dC, dI) classes A s.heap (mW ad cJ cI S) s.heap [] := ⟨hP, hD, va_S.rf⟩
  have hl := lv_entry ([.ref (ad 0), .int x1, .int x2, .long x3]) (n := 5) (Nat.le_of_ble_eq_true rfl)
  rw [lg_entry_eq]
  generalize (lg_sl ([.ref (ad 0), .int x1, .int x2, .long x3]) ++ List.replicate (5 - (lg_sl ([.ref (ad 0), .int x1, .int x2, .long x3])).length) Slot.unset).toArray = ls at hl ⊢
  have hl : lv_has ls 5 [(0, .ref (ad 0)), (1, .int x1), (2, .int x2), (3, .long x3)] := hl
  refine lv_iload_n hx hb d_M_body_IIJ_0 rfl (lv_at hl 1 rfl) ?_
  refine lv_bipush (v := (8 : Int32)) hx hb d_M_body_IIJ_1 (by decide) ?_
  refine pu_i (As := [.int x1, .int (8 : Int32)]) (rest := []) ⟨hx, hb, hml, hown, hts⟩ (c_M_in_II l _ x1 (8 : Int32)) pu_pre (gw_call (k := 2) hts tw_489 tw_490 tw_4 tw_491 (by decide +kernel) rfl rfl ⟨Nat.le_of_ble_eq_true rfl, Nat.le_of_ble_eq_true rfl⟩) rfl hl.1 rfl (Nat.le_of_ble_eq_true rfl) ⟨Nat.zero_le _, Nat.zero_le _⟩ d_M_body_IIJ_3 ?_
  refine lv_if_eq (tgt := 18) hx hb d_M_body_IIJ_6 (by decide) (fun c1 => ?_) (fun c1 => ?_)
  · refine lv_iconst (v := (-1)) hx hb d_M_body_IIJ_18 (by decide) ?_
    exact hg_iret hx hb hr hlocks hK hAe G (by unfold f_M_body_IIJ; rw [if_pos c1]; exact ⟨rfl, rfl⟩) d_M_body_IIJ_19
  · refine lv_iload_n hx hb d_M_body_IIJ_9 rfl (lv_at hl 2 rfl) ?_
    refine lv_bipush (v := (6 : Int32)) hx hb d_M_body_IIJ_10 (by decide) ?_
    refine pu_i (As := [.int x2, .int (6 : Int32)]) (rest := []) ⟨hx, hb, hml, hown, hts⟩ (c_M_in_II l _ x2 (6 : Int32)) pu_pre (gw_call (k := 2) hts tw_489 tw_490 tw_4 tw_491 (by decide +kernel) rfl rfl ⟨Nat.le_of_ble_eq_true rfl, Nat.le_of_ble_eq_true rfl⟩) rfl hl.1 rfl (Nat.le_of_ble_eq_true rfl) ⟨Nat.zero_le _, Nat.zero_le _⟩ d_M_body_IIJ_12 ?_
    refine lv_if_ne (tgt := 20) hx hb d_M_body_IIJ_15 (by decide) (fun c2 => ?_) (fun c2 => ?_)
    · refine lv_iload_n hx hb d_M_body_IIJ_20 rfl (lv_at hl 2 rfl) ?_
      by_cases c3 : x2 = 0
      · refine lv_tableIn (off := 35) (tgt := 56) hx hb d_M_body_IIJ_21 (by rw [c3]; decide) (by rw [c3]; decide) (by rw [c3]; rfl) (by decide) ?_
        refine lv_aload_n hx hb d_M_body_IIJ_56 rfl (lv_at hl 0 rfl) ?_
        refine va_get (D := (dC, dI)) (ci := 3) (v := .ref (ad 1)) (C := R_M) (T := F_M) (N := 21) hx hb hts (fun w h => gm (i_M w h)) hown hK G.1 0 rfl rfl 0 (by decide) (hts _ (gm tw_421)) (fun _ h9 => h9) rfl d_M_body_IIJ_57 ?_
        refine lv_iload_n hx hb d_M_body_IIJ_60 rfl (lv_at hl 1 rfl) ?_
        refine lv_lload_n hx hb d_M_body_IIJ_61 rfl (lv_at hl 3 rfl) ?_
        obtain ⟨S4, e4⟩ : ∃ z : MS, z = u_m_x S (vp_updL (m_x S) x1.toNatClampNeg x3) := ⟨_, rfl⟩
        refine hg_last hx hb hK G 1 0 rfl rfl (in_in c1 (by decide) (by decide)) d_M_body_IIJ_62 (mW ad cJ cI S4) (by rw [e4]; rfl) (fun H locs G => ?_)
        refine lv_goto (tgt := 119) hx hb d_M_body_IIJ_63 (by decide) ?_
        refine lv_iconst (v := 0) hx hb d_M_body_IIJ_119 (by decide) ?_
        exact hg_iret hx hb hr hlocks hK hAe G (by have qe4 := e4.symm; subst qe4; unfold f_M_body_IIJ; rw [if_neg c1, if_neg c2, if_pos c3]; exact ⟨rfl, rfl⟩) d_M_body_IIJ_120
      · skip
        by_cases c5 : x2 = 1
        · refine lv_tableIn (off := 45) (tgt := 66) hx hb d_M_body_IIJ_21 (by rw [c5]; decide) (by rw [c5]; decide) (by rw [c5]; rfl) (by decide) ?_
          refine lv_aload_n hx hb d_M_body_IIJ_66 rfl (lv_at hl 0 rfl) ?_
          refine va_get (D := (dC, dI)) (ci := 3) (v := .ref (ad 2)) (C := R_M) (T := F_M) (N := 21) hx hb hts (fun w h => gm (i_M w h)) hown hK G.1 0 rfl rfl 1 (by decide) (hts _ (gm tw_422)) (fun _ h9 => h9) rfl d_M_body_IIJ_67 ?_
          refine lv_iload_n hx hb d_M_body_IIJ_70 rfl (lv_at hl 1 rfl) ?_
          refine lv_lload_n hx hb d_M_body_IIJ_71 rfl (lv_at hl 3 rfl) ?_
          obtain ⟨S6, e6⟩ : ∃ z : MS, z = u_m_y S (vp_updL (m_y S) x1.toNatClampNeg x3) := ⟨_, rfl⟩
          refine hg_last hx hb hK G 2 0 rfl rfl (in_in c1 (by decide) (by decide)) d_M_body_IIJ_72 (mW ad cJ cI S6) (by rw [e6]; rfl) (fun H locs G => ?_)
          refine lv_goto (tgt := 119) hx hb d_M_body_IIJ_73 (by decide) ?_
          refine lv_iconst (v := 0) hx hb d_M_body_IIJ_119 (by decide) ?_
          exact hg_iret hx hb hr hlocks hK hAe G (by have qe6 := e6.symm; subst qe6; unfold f_M_body_IIJ; rw [if_neg c1, if_neg c2, if_neg c3, if_pos c5]; exact ⟨rfl, rfl⟩) d_M_body_IIJ_120
        · skip
          by_cases c7 : x2 = 2
          · refine lv_tableIn (off := 55) (tgt := 76) hx hb d_M_body_IIJ_21 (by rw [c7]; decide) (by rw [c7]; decide) (by rw [c7]; rfl) (by decide) ?_
            refine lv_aload_n hx hb d_M_body_IIJ_76 rfl (lv_at hl 0 rfl) ?_
            refine va_get (D := (dC, dI)) (ci := 3) (v := .ref (ad 3)) (C := R_M) (T := F_M) (N := 21) hx hb hts (fun w h => gm (i_M w h)) hown hK G.1 0 rfl rfl 2 (by decide) (hts _ (gm tw_423)) (fun _ h9 => h9) rfl d_M_body_IIJ_77 ?_
            refine lv_iload_n hx hb d_M_body_IIJ_80 rfl (lv_at hl 1 rfl) ?_
            refine lv_lload_n hx hb d_M_body_IIJ_81 rfl (lv_at hl 3 rfl) ?_
            obtain ⟨S8, e8⟩ : ∃ z : MS, z = u_m_u S (vp_updL (m_u S) x1.toNatClampNeg x3) := ⟨_, rfl⟩
            refine hg_last hx hb hK G 3 0 rfl rfl (in_in c1 (by decide) (by decide)) d_M_body_IIJ_82 (mW ad cJ cI S8) (by rw [e8]; rfl) (fun H locs G => ?_)
            refine lv_goto (tgt := 119) hx hb d_M_body_IIJ_83 (by decide) ?_
            refine lv_iconst (v := 0) hx hb d_M_body_IIJ_119 (by decide) ?_
            exact hg_iret hx hb hr hlocks hK hAe G (by have qe8 := e8.symm; subst qe8; unfold f_M_body_IIJ; rw [if_neg c1, if_neg c2, if_neg c3, if_neg c5, if_pos c7]; exact ⟨rfl, rfl⟩) d_M_body_IIJ_120
          · skip
            by_cases c9 : x2 = 3
            · refine lv_tableIn (off := 65) (tgt := 86) hx hb d_M_body_IIJ_21 (by rw [c9]; decide) (by rw [c9]; decide) (by rw [c9]; rfl) (by decide) ?_
              refine lv_aload_n hx hb d_M_body_IIJ_86 rfl (lv_at hl 0 rfl) ?_
              refine va_get (D := (dC, dI)) (ci := 3) (v := .ref (ad 4)) (C := R_M) (T := F_M) (N := 21) hx hb hts (fun w h => gm (i_M w h)) hown hK G.1 0 rfl rfl 3 (by decide) (hts _ (gm tw_424)) (fun _ h9 => h9) rfl d_M_body_IIJ_87 ?_
              refine lv_iload_n hx hb d_M_body_IIJ_90 rfl (lv_at hl 1 rfl) ?_
              refine lv_lload_n hx hb d_M_body_IIJ_91 rfl (lv_at hl 3 rfl) ?_
              obtain ⟨S10, e10⟩ : ∃ z : MS, z = u_m_v S (vp_updL (m_v S) x1.toNatClampNeg x3) := ⟨_, rfl⟩
              refine hg_last hx hb hK G 4 0 rfl rfl (in_in c1 (by decide) (by decide)) d_M_body_IIJ_92 (mW ad cJ cI S10) (by rw [e10]; rfl) (fun H locs G => ?_)
              refine lv_goto (tgt := 119) hx hb d_M_body_IIJ_93 (by decide) ?_
              refine lv_iconst (v := 0) hx hb d_M_body_IIJ_119 (by decide) ?_
              exact hg_iret hx hb hr hlocks hK hAe G (by have qe10 := e10.symm; subst qe10; unfold f_M_body_IIJ; rw [if_neg c1, if_neg c2, if_neg c3, if_neg c5, if_neg c7, if_pos c9]; exact ⟨rfl, rfl⟩) d_M_body_IIJ_120
            · skip
              by_cases c11 : x2 = 4
              · refine lv_tableIn (off := 75) (tgt := 96) hx hb d_M_body_IIJ_21 (by rw [c11]; decide) (by rw [c11]; decide) (by rw [c11]; rfl) (by decide) ?_
                refine lv_aload_n hx hb d_M_body_IIJ_96 rfl (lv_at hl 0 rfl) ?_
                refine va_get (D := (dC, dI)) (ci := 3) (v := .ref (ad 5)) (C := R_M) (T := F_M) (N := 21) hx hb hts (fun w h => gm (i_M w h)) hown hK G.1 0 rfl rfl 4 (by decide) (hts _ (gm tw_425)) (fun _ h9 => h9) rfl d_M_body_IIJ_97 ?_
                refine lv_iload_n hx hb d_M_body_IIJ_100 rfl (lv_at hl 1 rfl) ?_
                refine lv_lload_n hx hb d_M_body_IIJ_101 rfl (lv_at hl 3 rfl) ?_
                refine pu_l (As := [.long x3]) (rest := [.int x1, .ref (ad 5)]) ⟨hx, hb, hml, hown, hts⟩ (c_M_toFloat_J l _ t0 t1 t2 x3) (pr_pre (hx_R hRT G)) (gw_call (k := 1) hts tw_492 tw_493 tw_4 tw_494 (by decide +kernel) rfl rfl ⟨Nat.le_of_ble_eq_true rfl, Nat.le_of_ble_eq_true rfl⟩) rfl hl.1 rfl (Nat.le_of_ble_eq_true rfl) ⟨Nat.zero_le _, Nat.zero_le _⟩ d_M_body_IIJ_102 ?_
                obtain ⟨S12, e12⟩ : ∃ z : MS, z = u_m_m S (vp_updL (m_m S) x1.toNatClampNeg (f_M_toFloat_J x3)) := ⟨_, rfl⟩
                refine hg_last hx hb hK G 5 0 rfl rfl (in_in c1 (by decide) (by decide)) d_M_body_IIJ_105 (mW ad cJ cI S12) (by rw [e12]; rfl) (fun H locs G => ?_)
                refine lv_goto (tgt := 119) hx hb d_M_body_IIJ_106 (by decide) ?_
                refine lv_iconst (v := 0) hx hb d_M_body_IIJ_119 (by decide) ?_
                exact hg_iret hx hb hr hlocks hK hAe G (by have qe12 := e12.symm; subst qe12; unfold f_M_body_IIJ; rw [if_neg c1, if_neg c2, if_neg c3, if_neg c5, if_neg c7, if_neg c9, if_pos c11]; exact ⟨rfl, rfl⟩) d_M_body_IIJ_120
              · skip
                refine lv_tableOut (tgt := 109) hx hb d_M_body_IIJ_21 (sw_out (fun j h1 h2 e => by rcases (show j = 0 ∨ j = 1 ∨ j = 2 ∨ j = 3 ∨ j = 4 by omega) with rfl | rfl | rfl | rfl | rfl <;> first | exact c3 (Int32.toInt_inj.mp (e.trans (by decide))) | exact c5 (Int32.toInt_inj.mp (e.trans (by decide))) | exact c7 (Int32.toInt_inj.mp (e.trans (by decide))) | exact c9 (Int32.toInt_inj.mp (e.trans (by decide))) | exact c11 (Int32.toInt_inj.mp (e.trans (by decide))))) (by decide) ?_
                refine lv_aload_n hx hb d_M_body_IIJ_109 rfl (lv_at hl 0 rfl) ?_
                refine va_get (D := (dC, dI)) (ci := 3) (v := .ref (ad 6)) (C := R_M) (T := F_M) (N := 21) hx hb hts (fun w h => gm (i_M w h)) hown hK G.1 0 rfl rfl 5 (by decide) (hts _ (gm tw_426)) (fun _ h9 => h9) rfl d_M_body_IIJ_110 ?_
                refine lv_iload_n hx hb d_M_body_IIJ_113 rfl (lv_at hl 1 rfl) ?_
                refine lv_lload_n hx hb d_M_body_IIJ_114 rfl (lv_at hl 3 rfl) ?_
                refine pu_l (As := [.long x3]) (rest := [.int x1, .ref (ad 6)]) ⟨hx, hb, hml, hown, hts⟩ (c_M_toFloat_J l _ t0 t1 t2 x3) (pr_pre (hx_R hRT G)) (gw_call (k := 1) hts tw_492 tw_493 tw_4 tw_494 (by decide +kernel) rfl rfl ⟨Nat.le_of_ble_eq_true rfl, Nat.le_of_ble_eq_true rfl⟩) rfl hl.1 rfl (Nat.le_of_ble_eq_true rfl) ⟨Nat.zero_le _, Nat.zero_le _⟩ d_M_body_IIJ_115 ?_
                obtain ⟨S13, e13⟩ : ∃ z : MS, z = u_m_r S (vp_updL (m_r S) x1.toNatClampNeg (f_M_toFloat_J x3)) := ⟨_, rfl⟩
                refine hg_last hx hb hK G 6 0 rfl rfl (in_in c1 (by decide) (by decide)) d_M_body_IIJ_118 (mW ad cJ cI S13) (by rw [e13]; rfl) (fun H locs G => ?_)
                refine lv_iconst (v := 0) hx hb d_M_body_IIJ_119 (by decide) ?_
                exact hg_iret hx hb hr hlocks hK hAe G (by have qe13 := e13.symm; subst qe13; unfold f_M_body_IIJ; rw [if_neg c1, if_neg c2, if_neg c3, if_neg c5, if_neg c7, if_neg c9, if_neg c11]; exact ⟨rfl, rfl⟩) d_M_body_IIJ_120
    · refine lv_iconst (v := (-1)) hx hb d_M_body_IIJ_18 (by decide) ?_
      exact hg_iret hx hb hr hlocks hK hAe G (by unfold f_M_body_IIJ; rw [if_neg c1, if_pos c2]; exact ⟨rfl, rfl⟩) d_M_body_IIJ_19
