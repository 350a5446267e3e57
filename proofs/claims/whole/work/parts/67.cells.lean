-- ===== MotionLab.step(I)I 
abbrev y_L_step_I : MethodName := ⟨"MotionLab", "step", "(I)I"⟩
abbrev b_L_step_I : ByteArray := prog_1_method_6_code
theorem d_L_step_I_0 : decode b_L_step_I 0 = .ok (.iload_n 1, 1) := by decide +kernel
theorem d_L_step_I_1 : decode b_L_step_I 1 = .ok (.ifCond .lt 9, 3) := by decide +kernel
theorem d_L_step_I_4 : decode b_L_step_I 4 = .ok (.iload_n 1, 1) := by decide +kernel
theorem d_L_step_I_5 : decode b_L_step_I 5 = .ok (.bipush 20, 2) := by decide +kernel
theorem d_L_step_I_7 : decode b_L_step_I 7 = .ok (.if_icmp .le 5, 3) := by decide +kernel
theorem d_L_step_I_10 : decode b_L_step_I 10 = .ok (.iconst (-1), 1) := by decide +kernel
theorem d_L_step_I_11 : decode b_L_step_I 11 = .ok (.ireturn, 1) := by decide +kernel
theorem d_L_step_I_12 : decode b_L_step_I 12 = .ok (.iconst 0, 1) := by decide +kernel
theorem d_L_step_I_13 : decode b_L_step_I 13 = .ok (.istore_n 2, 1) := by decide +kernel
theorem d_L_step_I_14 : decode b_L_step_I 14 = .ok (.iload_n 2, 1) := by decide +kernel
theorem d_L_step_I_15 : decode b_L_step_I 15 = .ok (.iload_n 1, 1) := by decide +kernel
theorem d_L_step_I_16 : decode b_L_step_I 16 = .ok (.if_icmp .ge 16, 3) := by decide +kernel
theorem d_L_step_I_19 : decode b_L_step_I 19 = .ok (.aload_n 0, 1) := by decide +kernel
theorem d_L_step_I_20 : decode b_L_step_I 20 = .ok (.getfield 10, 3) := by decide +kernel
theorem d_L_step_I_23 : decode b_L_step_I 23 = .ok (.invokevirtual 66, 3) := by decide +kernel
theorem d_L_step_I_26 : decode b_L_step_I 26 = .ok (.iinc 2 1, 3) := by decide +kernel
theorem d_L_step_I_29 : decode b_L_step_I 29 = .ok (.goto (-15), 3) := by decide +kernel
theorem d_L_step_I_32 : decode b_L_step_I 32 = .ok (.iconst 0, 1) := by decide +kernel
theorem d_L_step_I_33 : decode b_L_step_I 33 = .ok (.ireturn, 1) := by decide +kernel
def f_L_step_I_14 : Nat → CS → Int32 → Int32 → Int32 × CS
  | 0, S, _, _ => (0, S)
  | n + 1, S, x1, x2 =>
    if x1 ≤ x2 then
      ((0 : Int32), S)
    else
      let S2 : CS := f_P_advance S
      let v3 : Int32 := x2 + 1
      f_L_step_I_14 n S2 x1 v3
set_option maxHeartbeats 4000000 in
set_option maxRecDepth 100000 in
theorem k_L_step_I_14 {p : Program} {l : Launch} {e : Env} {s : State} {m : MethodId} {args : Array Value} {below : List Frame} {meth : Method} {c : Code} {A : Nat → Prop} {dC : Nat → ClassId} {dI : Nat → Nat → Nat} {ad : Nat → Nat} {cJ cI : ClassId} {W0 : va_W} {sz : Nat} (C0 : pu_C p s m args meth c b_L_step_I 3 "MotionLab" (some .int) (gw y_L_step_I b_L_step_I 3 (some .int))) (hK : va_K (dC, dI) classes (tysJI cJ cI) s) (hAe : va_A W0 sz = A) (hA : ∀ q : Nat, s.heap.size ≤ q → A q) (n : Nat) : ∀ (S : CS) (x1 : Int32) (x2 : Int32) (hOK : cOK S) (hinv : ∃ j : Nat, x2 = nI j ∧ j ≤ x1.toNatClampNeg ∧ x1.toNatClampNeg - j < n) (H : Heap) (locs : List Loc) (G : hG (dC, dI) classes A s.heap (cW ad cJ cI S) H locs) (ls : Array Slot) (hl : lv_has ls 3 [(0, .ref (ad 0)), (1, .int x1), (2, .int x2)]) {w : Int32 × CS} (hw : w = f_L_step_I_14 n S x1 x2), W p l e (headSpec (gw y_L_step_I b_L_step_I 3 (some .int)) ({ frames := 7, cells := 0, slots := 0, locals := 198 } : Room)).room s m args below meth c H locs 0 0 (MQ below (hQi (dC, dI) classes (tysJI cJ cI) W0 sz w.1 (cW ad cJ cI w.2)) args s 0 0 A) (F0 m 14 ls []) := by
  obtain ⟨hx, hb, hml, hown, hts, hr, hlocks⟩ := id C0
  induction n with
  | zero => intro S x1 x2 hOK hinv H locs G ls hl w hw; exact (fl_zero hinv).elim
  | succ n ih =>
    intro S x1 x2 hOK hinv H locs G ls hl w hw
    refine lv_iload_n hx hb d_L_step_I_14 rfl (lv_at hl 2 rfl) ?_
    refine lv_iload_n hx hb d_L_step_I_15 rfl (lv_at hl 1 rfl) ?_
    refine lv_icmp_ge (tgt := 32) hx hb d_L_step_I_16 (by decide) (fun c1 => ?_) (fun c1 => ?_)
    · refine lv_iconst (v := 0) hx hb d_L_step_I_32 (by decide) ?_
      exact hg_iret hx hb hr hlocks hK hAe G (by have e9 := hw.trans (if_pos c1); exact ⟨Eq.symm (congrArg Prod.fst e9), Eq.symm (congrArg (fun z => cW ad cJ cI z.2) e9)⟩) d_L_step_I_33
    · refine lv_aload_n hx hb d_L_step_I_19 rfl (lv_at hl 0 rfl) ?_
      refine va_get (D := (dC, dI)) (ci := 0) (v := .ref (ad 1)) (C := R_L) (T := F_L) (N := 2) hx hb hts (fun w h => gm (i_L w h)) hown hK G.1 0 rfl rfl 0 (by decide) (hts _ (gm tw_57)) (fun _ h9 => h9) rfl d_L_step_I_20 ?_
      obtain ⟨S2, e2⟩ : ∃ z : CS, z = f_P_advance S := ⟨_, rfl⟩
      refine hg_cv (As := []) (rest := []) ⟨hx, hb, hml, hown, hts⟩ (c_P_advance l dC dI ad cJ cI S hOK _) (gw_callV (k := 0) hts tw_166 tw_167 tw_168 tw_2 tw_169 (by decide +kernel) rfl rfl ⟨Nat.le_of_ble_eq_true rfl, Nat.le_of_ble_eq_true rfl⟩) hK G hA (hx_T _ _) 1 1 rfl rfl rfl hl.1 rfl (Nat.le_of_ble_eq_true rfl) ⟨Nat.zero_le _, Nat.zero_le _⟩ d_L_step_I_23 (fun H locs G => ?_)
      rw [← e2] at G
      obtain ⟨v3, e3⟩ : ∃ y : Int32, y = x2 + 1 := ⟨_, rfl⟩
      refine lv_iinc (v := v3) (lv' := [(2, .int v3), (0, .ref (ad 0)), (1, .int x1)]) hx hb d_L_step_I_26 hl (k := 2) rfl (by rw [e3]; rfl) (by decide) rfl (fun ls hl => ?_)
      refine lv_goto (tgt := 14) hx hb d_L_step_I_29 (by decide) ?_
      exact ih S2 x1 v3 (by rw [e2]; exact ok_advance hOK) (by rw [e3]; exact fl_up hinv c1) _ _ G ls (lv_sub hl [1, 2, 0] rfl) (by have qe2 := e2.symm; have qe3 := e3.symm; subst qe2 qe3; exact (hw.trans (if_neg c1)))
def f_L_step_I (S : CS) (x1 : Int32) : Int32 × CS :=
  if x1 < 0 then
    ((-1 : Int32), S)
  else
    if x1 ≤ (20 : Int32) then
      f_L_step_I_14 (x1.toNatClampNeg + 1) S x1 (0 : Int32)
    else
      ((-1 : Int32), S)
set_option maxHeartbeats 4000000 in
set_option maxRecDepth 100000 in
theorem c_L_step_I (l : Launch) (dC : Nat → ClassId) (dI : Nat → Nat → Nat) (ad : Nat → Nat) (cJ cI : ClassId) (S : CS) (x1 : Int32) (hOK : cOK S) (sz : Nat) : hMi l y_L_step_I (gw y_L_step_I b_L_step_I 3 (some .int)) { frames := 7, cells := 0, slots := 0, locals := 198 } [.ref (ad 0), .int x1] (dC, dI) classes (tysJI cJ cI) (fun _ => True) (cW ad cJ cI S) sz (f_L_step_I S x1).1 (cW ad cJ cI (f_L_step_I S x1).2) := by
  refine Met.ofW (cc := b_L_step_I) (maxL := 3) (ret := (some .int)) (by decide) rfl ?_
  intro p e s m args below meth c s₁ B hml hv
  obtain ⟨rfl, hsz, hP, hK, hD0, hRT⟩ := hv
  have hx := B.exec
  have hb := B.bytes
  have hr := B.returns
  have hts := atoms_spec (ws := (gw y_L_step_I b_L_step_I 3 (some .int))) B.pre
  have hown : s.vm.findClass "MotionLab" = some m.cls := findClass_of_methodNamed B.named
  have hlocks := B.notSynchronized
  have C0 : pu_C p s m _ meth c b_L_step_I 3 "MotionLab" (some .int) (gw y_L_step_I b_L_step_I 3 (some .int)) := ⟨hx, hb, hml, hown, hts, hr, hlocks⟩
  subst hsz
  have hD := hD0.self (sz := s.heap.size)
  generalize hAe : va_A (cW ad cJ cI S) s.heap.size = A at hD
  have hA : ∀ q : Nat, s.heap.size ≤ q → A q := fun q h => by rw [← hAe]; exact Or.inr h
  have G : hG (dC, dI) classes A s.heap (cW ad cJ cI S) s.heap [] := ⟨hP, hD, va_S.rf⟩
  have hl := lv_entry ([.ref (ad 0), .int x1]) (n := 3) (Nat.le_of_ble_eq_true rfl)
  rw [lg_entry_eq]
  generalize (lg_sl ([.ref (ad 0), .int x1]) ++ List.replicate (3 - (lg_sl ([.ref (ad 0), .int x1])).length) Slot.unset).toArray = ls at hl ⊢
  have hl : lv_has ls 3 [(0, .ref (ad 0)), (1, .int x1)] := hl
  refine lv_iload_n hx hb d_L_step_I_0 rfl (lv_at hl 1 rfl) ?_
  refine lv_if_lt (tgt := 10) hx hb d_L_step_I_1 (by decide) (fun c1 => ?_) (fun c1 => ?_)
  · refine lv_iconst (v := (-1)) hx hb d_L_step_I_10 (by decide) ?_
    exact hg_iret hx hb hr hlocks hK hAe G (by have e9 : f_L_step_I S x1 = _ := (if_pos c1); exact ⟨Eq.symm (congrArg Prod.fst e9), Eq.symm (congrArg (fun z => cW ad cJ cI z.2) e9)⟩) d_L_step_I_11
  · refine lv_iload_n hx hb d_L_step_I_4 rfl (lv_at hl 1 rfl) ?_
    refine lv_bipush (v := (20 : Int32)) hx hb d_L_step_I_5 (by decide) ?_
    refine lv_icmp_le (tgt := 12) hx hb d_L_step_I_7 (by decide) (fun c2 => ?_) (fun c2 => ?_)
    · refine lv_iconst (v := 0) hx hb d_L_step_I_12 (by decide) ?_
      refine lv_istore_n (lv' := [(2, .int (0 : Int32)), (0, .ref (ad 0)), (1, .int x1)]) hx hb d_L_step_I_13 rfl hl (by decide) rfl (fun ls hl => ?_)
      exact k_L_step_I_14 C0 hK hAe hA (x1.toNatClampNeg + 1) S x1 (0 : Int32) hOK fl_first _ _ G ls (lv_sub hl [1, 2, 0] rfl) (by exact (Eq.trans (if_neg c1) (if_pos c2)))
    · refine lv_iconst (v := (-1)) hx hb d_L_step_I_10 (by decide) ?_
      exact hg_iret hx hb hr hlocks hK hAe G (by have e9 : f_L_step_I S x1 = _ := (Eq.trans (if_neg c1) (if_neg c2)); exact ⟨Eq.symm (congrArg Prod.fst e9), Eq.symm (congrArg (fun z => cW ad cJ cI z.2) e9)⟩) d_L_step_I_11
-- ===== MotionLab$Plane.bodyNumber(II)J 
abbrev y_P_bodyNumber_II : MethodName := ⟨"MotionLab$Plane", "bodyNumber", "(II)J"⟩
abbrev b_P_bodyNumber_II : ByteArray := prog_3_method_7_code
theorem d_P_bodyNumber_II_0 : decode b_P_bodyNumber_II 0 = .ok (.aload_n 0, 1) := by decide +kernel
theorem d_P_bodyNumber_II_1 : decode b_P_bodyNumber_II 1 = .ok (.getfield 9, 3) := by decide +kernel
theorem d_P_bodyNumber_II_4 : decode b_P_bodyNumber_II 4 = .ok (.iload_n 2, 1) := by decide +kernel
theorem d_P_bodyNumber_II_5 : decode b_P_bodyNumber_II 5 = .ok (.bipush 8, 2) := by decide +kernel
theorem d_P_bodyNumber_II_7 : decode b_P_bodyNumber_II 7 = .ok (.imul, 1) := by decide +kernel
theorem d_P_bodyNumber_II_8 : decode b_P_bodyNumber_II 8 = .ok (.iload_n 1, 1) := by decide +kernel
theorem d_P_bodyNumber_II_9 : decode b_P_bodyNumber_II 9 = .ok (.iadd, 1) := by decide +kernel
theorem d_P_bodyNumber_II_10 : decode b_P_bodyNumber_II 10 = .ok (.laload, 1) := by decide +kernel
theorem d_P_bodyNumber_II_11 : decode b_P_bodyNumber_II 11 = .ok (.lreturn, 1) := by decide +kernel
def f_P_bodyNumber_II (S : CS) (x1 : Int32) (x2 : Int32) : Int64 :=
  sR S ((x2 * (8 : Int32)) + x1).toNatClampNeg
set_option maxHeartbeats 4000000 in
set_option maxRecDepth 100000 in
theorem c_P_bodyNumber_II (l : Launch) (dC : Nat → ClassId) (dI : Nat → Nat → Nat) (ad : Nat → Nat) (cJ cI : ClassId) (S : CS) (x1 : Int32) (x2 : Int32) (hk_x1 : vp_in x1 8) (hk_x2 : vp_in x2 6) (sz : Nat) : hMl l y_P_bodyNumber_II (gw y_P_bodyNumber_II b_P_bodyNumber_II 3 (some .long)) { frames := 0, cells := 0, slots := 0, locals := 0 } [.ref (ad 1), .int x1, .int x2] (dC, dI) classes (tysJI cJ cI) (fun _ => True) (cW ad cJ cI S) sz (f_P_bodyNumber_II S x1 x2) (cW ad cJ cI S) := by
  refine Met.ofW (cc := b_P_bodyNumber_II) (maxL := 3) (ret := (some .long)) (by decide) rfl ?_
  intro p e s m args below meth c s₁ B hml hv
  obtain ⟨rfl, hsz, hP, hK, hD0, hRT⟩ := hv
  have hx := B.exec
  have hb := B.bytes
  have hr := B.returns
  have hts := atoms_spec (ws := (gw y_P_bodyNumber_II b_P_bodyNumber_II 3 (some .long))) B.pre
  have hown : s.vm.findClass "MotionLab$Plane" = some m.cls := findClass_of_methodNamed B.named
  have hlocks := B.notSynchronized
  subst hsz
  have hD := hD0.self (sz := s.heap.size)
  generalize hAe : va_A (cW ad cJ cI S) s.heap.size = A at hD
  have hA : ∀ q : Nat, s.heap.size ≤ q → A q := fun q h => by rw [← hAe]; exact Or.inr h
  have G : hG (dC, dI) classes A s.heap (cW ad cJ cI S) s.heap [] := ⟨hP, hD, va_S.rf⟩
  have hl := lv_entry ([.ref (ad 1), .int x1, .int x2]) (n := 3) (Nat.le_of_ble_eq_true rfl)
  rw [lg_entry_eq]
  generalize (lg_sl ([.ref (ad 1), .int x1, .int x2]) ++ List.replicate (3 - (lg_sl ([.ref (ad 1), .int x1, .int x2])).length) Slot.unset).toArray = ls at hl ⊢
  have hl : lv_has ls 3 [(0, .ref (ad 1)), (1, .int x1), (2, .int x2)] := hl
  refine lv_aload_n hx hb d_P_bodyNumber_II_0 rfl (lv_at hl 0 rfl) ?_
  refine va_get (D := (dC, dI)) (ci := 1) (v := .ref (ad 3)) (C := R_P) (T := F_P) (N := 3) hx hb hts (fun w h => gm (i_P w h)) hown hK G.1 1 rfl rfl 0 (by decide) (hts _ (gm tw_46)) (fun _ h9 => h9) rfl d_P_bodyNumber_II_1 ?_
  refine lv_iload_n hx hb d_P_bodyNumber_II_4 rfl (lv_at hl 2 rfl) ?_
  refine lv_bipush (v := (8 : Int32)) hx hb d_P_bodyNumber_II_5 (by decide) ?_
  refine lv_imul hx hb d_P_bodyNumber_II_7 ?_
  refine lv_iload_n hx hb d_P_bodyNumber_II_8 rfl (lv_at hl 1 rfl) ?_
  refine lv_iadd hx hb d_P_bodyNumber_II_9 ?_
  refine va_lald hx hb hK G.1 3 0 rfl rfl (in_rb hk_x2 hk_x1) d_P_bodyNumber_II_10 ?_
  exact hg_lret hx hb hr hlocks hK hAe G (by exact ⟨rfl, rfl⟩) d_P_bodyNumber_II_11
-- ===== MotionLab.tell(II)J 
abbrev y_L_tell_II : MethodName := ⟨"MotionLab", "tell", "(II)J"⟩
abbrev b_L_tell_II : ByteArray := prog_1_method_7_code
theorem d_L_tell_II_0 : decode b_L_tell_II 0 = .ok (.iload_n 1, 1) := by decide +kernel
theorem d_L_tell_II_1 : decode b_L_tell_II 1 = .ok (.invokestatic 20, 3) := by decide +kernel
theorem d_L_tell_II_4 : decode b_L_tell_II 4 = .ok (.ifCond .eq 10, 3) := by decide +kernel
theorem d_L_tell_II_7 : decode b_L_tell_II 7 = .ok (.iload_n 2, 1) := by decide +kernel
theorem d_L_tell_II_8 : decode b_L_tell_II 8 = .ok (.invokestatic 24, 3) := by decide +kernel
theorem d_L_tell_II_11 : decode b_L_tell_II 11 = .ok (.ifCond .ne 5, 3) := by decide +kernel
theorem d_L_tell_II_14 : decode b_L_tell_II 14 = .ok (.lconst 1, 1) := by decide +kernel
theorem d_L_tell_II_15 : decode b_L_tell_II 15 = .ok (.lreturn, 1) := by decide +kernel
theorem d_L_tell_II_16 : decode b_L_tell_II 16 = .ok (.aload_n 0, 1) := by decide +kernel
theorem d_L_tell_II_17 : decode b_L_tell_II 17 = .ok (.getfield 10, 3) := by decide +kernel
theorem d_L_tell_II_20 : decode b_L_tell_II 20 = .ok (.iload_n 1, 1) := by decide +kernel
theorem d_L_tell_II_21 : decode b_L_tell_II 21 = .ok (.iload_n 2, 1) := by decide +kernel
theorem d_L_tell_II_22 : decode b_L_tell_II 22 = .ok (.invokevirtual 69, 3) := by decide +kernel
theorem d_L_tell_II_25 : decode b_L_tell_II 25 = .ok (.lreturn, 1) := by decide +kernel
def f_L_tell_II (S : CS) (x1 : Int32) (x2 : Int32) : Int64 :=
  if (f_P_isBody_I x1) = 0 then
    (1 : Int64)
  else
    if (f_P_isBodyNumber_I x2) = 0 then
      (1 : Int64)
    else
      f_P_bodyNumber_II S x1 x2
set_option maxHeartbeats 4000000 in
set_option maxRecDepth 100000 in
theorem c_L_tell_II (l : Launch) (dC : Nat → ClassId) (dI : Nat → Nat → Nat) (ad : Nat → Nat) (cJ cI : ClassId) (S : CS) (x1 : Int32) (x2 : Int32) (sz : Nat) : hMl l y_L_tell_II (gw y_L_tell_II b_L_tell_II 3 (some .long)) { frames := 1, cells := 0, slots := 0, locals := 22 } [.ref (ad 0), .int x1, .int x2] (dC, dI) classes (tysJI cJ cI) (fun _ => True) (cW ad cJ cI S) sz (f_L_tell_II S x1 x2) (cW ad cJ cI S) := by
  refine Met.ofW (cc := b_L_tell_II) (maxL := 3) (ret := (some .long)) (by decide) rfl ?_
  intro p e s m args below meth c s₁ B hml hv
  obtain ⟨rfl, hsz, hP, hK, hD0, hRT⟩ := hv
  have hx := B.exec
  have hb := B.bytes
  have hr := B.returns
  have hts := atoms_spec (ws := (gw y_L_tell_II b_L_tell_II 3 (some .long))) B.pre
  have hown : s.vm.findClass "MotionLab" = some m.cls := findClass_of_methodNamed B.named
  have hlocks := B.notSynchronized
  subst hsz
  have hD := hD0.self (sz := s.heap.size)
  generalize hAe : va_A (cW ad cJ cI S) s.heap.size = A at hD
  have hA : ∀ q : Nat, s.heap.size ≤ q → A q := fun q h => by rw [← hAe]; exact Or.inr h
  have G : hG (dC, dI) classes A s.heap (cW ad cJ cI S) s.heap [] := ⟨hP, hD, va_S.rf⟩
  have hl := lv_entry ([.ref (ad 0), .int x1, .int x2]) (n := 3) (Nat.le_of_ble_eq_true rfl)
  rw [lg_entry_eq]
  generalize (lg_sl ([.ref (ad 0), .int x1, .int x2]) ++ List.replicate (3 - (lg_sl ([.ref (ad 0), .int x1, .int x2])).length) Slot.unset).toArray = ls at hl ⊢
  have hl : lv_has ls 3 [(0, .ref (ad 0)), (1, .int x1), (2, .int x2)] := hl
  refine lv_iload_n hx hb d_L_tell_II_0 rfl (lv_at hl 1 rfl) ?_
  refine pu_i (As := [.int x1]) (rest := []) ⟨hx, hb, hml, hown, hts⟩ (c_P_isBody_I l _ x1) pu_pre (gw_call (k := 1) hts tw_68 tw_69 tw_2 tw_70 (by decide +kernel) rfl rfl ⟨Nat.le_of_ble_eq_true rfl, Nat.le_of_ble_eq_true rfl⟩) rfl hl.1 rfl (Nat.le_of_ble_eq_true rfl) ⟨Nat.zero_le _, Nat.zero_le _⟩ d_L_tell_II_1 ?_
  refine lv_if_eq (tgt := 14) hx hb d_L_tell_II_4 (by decide) (fun c1 => ?_) (fun c1 => ?_)
  · refine lv_lconst (v := (1 : Int64)) hx hb d_L_tell_II_14 (by decide) ?_
    exact hg_lret hx hb hr hlocks hK hAe G (by have e9 : f_L_tell_II S x1 x2 = _ := (if_pos c1); exact ⟨Eq.symm e9, rfl⟩) d_L_tell_II_15
  · refine lv_iload_n hx hb d_L_tell_II_7 rfl (lv_at hl 2 rfl) ?_
    refine pu_i (As := [.int x2]) (rest := []) ⟨hx, hb, hml, hown, hts⟩ (c_P_isBodyNumber_I l _ x2) pu_pre (gw_call (k := 1) hts tw_71 tw_72 tw_2 tw_73 (by decide +kernel) rfl rfl ⟨Nat.le_of_ble_eq_true rfl, Nat.le_of_ble_eq_true rfl⟩) rfl hl.1 rfl (Nat.le_of_ble_eq_true rfl) ⟨Nat.zero_le _, Nat.zero_le _⟩ d_L_tell_II_8 ?_
    refine lv_if_ne (tgt := 16) hx hb d_L_tell_II_11 (by decide) (fun c2 => ?_) (fun c2 => ?_)
    · refine lv_aload_n hx hb d_L_tell_II_16 rfl (lv_at hl 0 rfl) ?_
      refine va_get (D := (dC, dI)) (ci := 0) (v := .ref (ad 1)) (C := R_L) (T := F_L) (N := 2) hx hb hts (fun w h => gm (i_L w h)) hown hK G.1 0 rfl rfl 0 (by decide) (hts _ (gm tw_57)) (fun _ h9 => h9) rfl d_L_tell_II_17 ?_
      refine lv_iload_n hx hb d_L_tell_II_20 rfl (lv_at hl 1 rfl) ?_
      refine lv_iload_n hx hb d_L_tell_II_21 rfl (lv_at hl 2 rfl) ?_
      refine hg_cl (As := [.int x1, .int x2]) (rest := []) ⟨hx, hb, hml, hown, hts⟩ (c_P_bodyNumber_II l dC dI ad cJ cI S x1 x2 (in_isBody c1) (in_isBodyNumber c2) _) (gw_callV (k := 2) hts tw_274 tw_275 tw_276 tw_2 tw_277 (by decide +kernel) rfl rfl ⟨Nat.le_of_ble_eq_true rfl, Nat.le_of_ble_eq_true rfl⟩) hK G hA (hx_T _ _) 1 1 rfl rfl rfl hl.1 rfl (Nat.le_of_ble_eq_true rfl) ⟨Nat.zero_le _, Nat.zero_le _⟩ d_L_tell_II_22 (fun H locs G => ?_)
      exact hg_lret hx hb hr hlocks hK hAe G (by have e9 : f_L_tell_II S x1 x2 = _ := (Eq.trans (if_neg c1) (if_neg c2)); exact ⟨Eq.symm e9, rfl⟩) d_L_tell_II_25
    · refine lv_lconst (v := (1 : Int64)) hx hb d_L_tell_II_14 (by decide) ?_
      exact hg_lret hx hb hr hlocks hK hAe G (by have e9 : f_L_tell_II S x1 x2 = _ := (Eq.trans (if_neg c1) (if_pos c2)); exact ⟨Eq.symm e9, rfl⟩) d_L_tell_II_15
-- ===== MotionLab$Plane.fieldNumber(I)J 
abbrev y_P_fieldNumber_I : MethodName := ⟨"MotionLab$Plane", "fieldNumber", "(I)J"⟩
abbrev b_P_fieldNumber_I : ByteArray := prog_3_method_8_code
theorem d_P_fieldNumber_I_0 : decode b_P_fieldNumber_I 0 = .ok (.aload_n 0, 1) := by decide +kernel
theorem d_P_fieldNumber_I_1 : decode b_P_fieldNumber_I 1 = .ok (.getfield 13, 3) := by decide +kernel
theorem d_P_fieldNumber_I_4 : decode b_P_fieldNumber_I 4 = .ok (.iload_n 1, 1) := by decide +kernel
theorem d_P_fieldNumber_I_5 : decode b_P_fieldNumber_I 5 = .ok (.laload, 1) := by decide +kernel
theorem d_P_fieldNumber_I_6 : decode b_P_fieldNumber_I 6 = .ok (.lreturn, 1) := by decide +kernel
def f_P_fieldNumber_I (S : CS) (x1 : Int32) : Int64 :=
  sF S x1.toNatClampNeg
set_option maxHeartbeats 4000000 in
set_option maxRecDepth 100000 in
theorem c_P_fieldNumber_I (l : Launch) (dC : Nat → ClassId) (dI : Nat → Nat → Nat) (ad : Nat → Nat) (cJ cI : ClassId) (S : CS) (x1 : Int32) (hk_x1 : vp_in x1 6) (sz : Nat) : hMl l y_P_fieldNumber_I (gw y_P_fieldNumber_I b_P_fieldNumber_I 2 (some .long)) { frames := 0, cells := 0, slots := 0, locals := 0 } [.ref (ad 1), .int x1] (dC, dI) classes (tysJI cJ cI) (fun _ => True) (cW ad cJ cI S) sz (f_P_fieldNumber_I S x1) (cW ad cJ cI S) := by
  refine Met.ofW (cc := b_P_fieldNumber_I) (maxL := 2) (ret := (some .long)) (by decide) rfl ?_
  intro p e s m args below meth c s₁ B hml hv
  obtain ⟨rfl, hsz, hP, hK, hD0, hRT⟩ := hv
  have hx := B.exec
  have hb := B.bytes
  have hr := B.returns
  have hts := atoms_spec (ws := (gw y_P_fieldNumber_I b_P_fieldNumber_I 2 (some .long))) B.pre
  have hown : s.vm.findClass "MotionLab$Plane" = some m.cls := findClass_of_methodNamed B.named
  have hlocks := B.notSynchronized
  subst hsz
  have hD := hD0.self (sz := s.heap.size)
  generalize hAe : va_A (cW ad cJ cI S) s.heap.size = A at hD
  have hA : ∀ q : Nat, s.heap.size ≤ q → A q := fun q h => by rw [← hAe]; exact Or.inr h
  have G : hG (dC, dI) classes A s.heap (cW ad cJ cI S) s.heap [] := ⟨hP, hD, va_S.rf⟩
  have hl := lv_entry ([.ref (ad 1), .int x1]) (n := 2) (Nat.le_of_ble_eq_true rfl)
  rw [lg_entry_eq]
  generalize (lg_sl ([.ref (ad 1), .int x1]) ++ List.replicate (2 - (lg_sl ([.ref (ad 1), .int x1])).length) Slot.unset).toArray = ls at hl ⊢
  have hl : lv_has ls 2 [(0, .ref (ad 1)), (1, .int x1)] := hl
  refine lv_aload_n hx hb d_P_fieldNumber_I_0 rfl (lv_at hl 0 rfl) ?_
  refine va_get (D := (dC, dI)) (ci := 1) (v := .ref (ad 4)) (C := R_P) (T := F_P) (N := 3) hx hb hts (fun w h => gm (i_P w h)) hown hK G.1 1 rfl rfl 1 (by decide) (hts _ (gm tw_47)) (fun _ h9 => h9) rfl d_P_fieldNumber_I_1 ?_
  refine lv_iload_n hx hb d_P_fieldNumber_I_4 rfl (lv_at hl 1 rfl) ?_
  refine va_lald hx hb hK G.1 4 0 rfl rfl hk_x1 d_P_fieldNumber_I_5 ?_
  exact hg_lret hx hb hr hlocks hK hAe G (by exact ⟨rfl, rfl⟩) d_P_fieldNumber_I_6
-- ===== MotionLab.about(I)J 
abbrev y_L_about_I : MethodName := ⟨"MotionLab", "about", "(I)J"⟩
abbrev b_L_about_I : ByteArray := prog_1_method_8_code
theorem d_L_about_I_0 : decode b_L_about_I 0 = .ok (.iload_n 1, 1) := by decide +kernel
theorem d_L_about_I_1 : decode b_L_about_I 1 = .ok (.invokestatic 31, 3) := by decide +kernel
theorem d_L_about_I_4 : decode b_L_about_I 4 = .ok (.ifCond .eq 14, 3) := by decide +kernel
theorem d_L_about_I_7 : decode b_L_about_I 7 = .ok (.aload_n 0, 1) := by decide +kernel
theorem d_L_about_I_8 : decode b_L_about_I 8 = .ok (.getfield 10, 3) := by decide +kernel
theorem d_L_about_I_11 : decode b_L_about_I 11 = .ok (.iload_n 1, 1) := by decide +kernel
theorem d_L_about_I_12 : decode b_L_about_I 12 = .ok (.invokevirtual 73, 3) := by decide +kernel
theorem d_L_about_I_15 : decode b_L_about_I 15 = .ok (.goto 4, 3) := by decide +kernel
theorem d_L_about_I_18 : decode b_L_about_I 18 = .ok (.lconst 1, 1) := by decide +kernel
theorem d_L_about_I_19 : decode b_L_about_I 19 = .ok (.lreturn, 1) := by decide +kernel
def f_L_about_I (S : CS) (x1 : Int32) : Int64 :=
  if (f_P_isFieldNumber_I x1) = 0 then
    (1 : Int64)
  else
    f_P_fieldNumber_I S x1
set_option maxHeartbeats 4000000 in
set_option maxRecDepth 100000 in
theorem c_L_about_I (l : Launch) (dC : Nat → ClassId) (dI : Nat → Nat → Nat) (ad : Nat → Nat) (cJ cI : ClassId) (S : CS) (x1 : Int32) (sz : Nat) : hMl l y_L_about_I (gw y_L_about_I b_L_about_I 2 (some .long)) { frames := 1, cells := 0, slots := 0, locals := 21 } [.ref (ad 0), .int x1] (dC, dI) classes (tysJI cJ cI) (fun _ => True) (cW ad cJ cI S) sz (f_L_about_I S x1) (cW ad cJ cI S) := by
  refine Met.ofW (cc := b_L_about_I) (maxL := 2) (ret := (some .long)) (by decide) rfl ?_
  intro p e s m args below meth c s₁ B hml hv
  obtain ⟨rfl, hsz, hP, hK, hD0, hRT⟩ := hv
  have hx := B.exec
  have hb := B.bytes
  have hr := B.returns
  have hts := atoms_spec (ws := (gw y_L_about_I b_L_about_I 2 (some .long))) B.pre
  have hown : s.vm.findClass "MotionLab" = some m.cls := findClass_of_methodNamed B.named
  have hlocks := B.notSynchronized
  subst hsz
  have hD := hD0.self (sz := s.heap.size)
  generalize hAe : va_A (cW ad cJ cI S) s.heap.size = A at hD
  have hA : ∀ q : Nat, s.heap.size ≤ q → A q := fun q h => by rw [← hAe]; exact Or.inr h
  have G : hG (dC, dI) classes A s.heap (cW ad cJ cI S) s.heap [] := ⟨hP, hD, va_S.rf⟩
  have hl := lv_entry ([.ref (ad 0), .int x1]) (n := 2) (Nat.le_of_ble_eq_true rfl)
  rw [lg_entry_eq]
  generalize (lg_sl ([.ref (ad 0), .int x1]) ++ List.replicate (2 - (lg_sl ([.ref (ad 0), .int x1])).length) Slot.unset).toArray = ls at hl ⊢
  have hl : lv_has ls 2 [(0, .ref (ad 0)), (1, .int x1)] := hl
  refine lv_iload_n hx hb d_L_about_I_0 rfl (lv_at hl 1 rfl) ?_
  refine pu_i (As := [.int x1]) (rest := []) ⟨hx, hb, hml, hown, hts⟩ (c_P_isFieldNumber_I l _ x1) pu_pre (gw_call (k := 1) hts tw_127 tw_128 tw_2 tw_129 (by decide +kernel) rfl rfl ⟨Nat.le_of_ble_eq_true rfl, Nat.le_of_ble_eq_true rfl⟩) rfl hl.1 rfl (Nat.le_of_ble_eq_true rfl) ⟨Nat.zero_le _, Nat.zero_le _⟩ d_L_about_I_1 ?_
  refine lv_if_eq (tgt := 18) hx hb d_L_about_I_4 (by decide) (fun c1 => ?_) (fun c1 => ?_)
  · refine lv_lconst (v := (1 : Int64)) hx hb d_L_about_I_18 (by decide) ?_
    exact hg_lret hx hb hr hlocks hK hAe G (by have e9 : f_L_about_I S x1 = _ := (if_pos c1); exact ⟨Eq.symm e9, rfl⟩) d_L_about_I_19
  · refine lv_aload_n hx hb d_L_about_I_7 rfl (lv_at hl 0 rfl) ?_
    refine va_get (D := (dC, dI)) (ci := 0) (v := .ref (ad 1)) (C := R_L) (T := F_L) (N := 2) hx hb hts (fun w h => gm (i_L w h)) hown hK G.1 0 rfl rfl 0 (by decide) (hts _ (gm tw_57)) (fun _ h9 => h9) rfl d_L_about_I_8 ?_
    refine lv_iload_n hx hb d_L_about_I_11 rfl (lv_at hl 1 rfl) ?_
    refine hg_cl (As := [.int x1]) (rest := []) ⟨hx, hb, hml, hown, hts⟩ (c_P_fieldNumber_I l dC dI ad cJ cI S x1 (in_isFieldNumber c1) _) (gw_callV (k := 1) hts tw_282 tw_283 tw_284 tw_2 tw_285 (by decide +kernel) rfl rfl ⟨Nat.le_of_ble_eq_true rfl, Nat.le_of_ble_eq_true rfl⟩) hK G hA (hx_T _ _) 1 1 rfl rfl rfl hl.1 rfl (Nat.le_of_ble_eq_true rfl) ⟨Nat.zero_le _, Nat.zero_le _⟩ d_L_about_I_12 (fun H locs G => ?_)
    refine lv_goto (tgt := 19) hx hb d_L_about_I_15 (by decide) ?_
    exact hg_lret hx hb hr hlocks hK hAe G (by have e9 : f_L_about_I S x1 = _ := (if_neg c1); exact ⟨Eq.symm e9, rfl⟩) d_L_about_I_19
-- ===== MotionLab.keep(IJ)I 
abbrev y_L_keep_IJ : MethodName := ⟨"MotionLab", "keep", "(IJ)I"⟩
abbrev b_L_keep_IJ : ByteArray := prog_1_method_9_code
theorem d_L_keep_IJ_0 : decode b_L_keep_IJ 0 = .ok (.iload_n 1, 1) := by decide +kernel
theorem d_L_keep_IJ_1 : decode b_L_keep_IJ 1 = .ok (.invokestatic 76, 3) := by decide +kernel
theorem d_L_keep_IJ_4 : decode b_L_keep_IJ 4 = .ok (.ifCond .ne 5, 3) := by decide +kernel
theorem d_L_keep_IJ_7 : decode b_L_keep_IJ 7 = .ok (.iconst (-1), 1) := by decide +kernel
theorem d_L_keep_IJ_8 : decode b_L_keep_IJ 8 = .ok (.ireturn, 1) := by decide +kernel
theorem d_L_keep_IJ_9 : decode b_L_keep_IJ 9 = .ok (.aload_n 0, 1) := by decide +kernel
theorem d_L_keep_IJ_10 : decode b_L_keep_IJ 10 = .ok (.getfield 16, 3) := by decide +kernel
theorem d_L_keep_IJ_13 : decode b_L_keep_IJ 13 = .ok (.iload_n 1, 1) := by decide +kernel
theorem d_L_keep_IJ_14 : decode b_L_keep_IJ 14 = .ok (.lload_n 2, 1) := by decide +kernel
theorem d_L_keep_IJ_15 : decode b_L_keep_IJ 15 = .ok (.invokestatic 79, 3) := by decide +kernel
theorem d_L_keep_IJ_18 : decode b_L_keep_IJ 18 = .ok (.lastore, 1) := by decide +kernel
theorem d_L_keep_IJ_19 : decode b_L_keep_IJ 19 = .ok (.iconst 0, 1) := by decide +kernel
theorem d_L_keep_IJ_20 : decode b_L_keep_IJ 20 = .ok (.ireturn, 1) := by decide +kernel
def f_L_keep_IJ (S : CS) (x1 : Int32) (x2 : Int64) : Int32 × CS :=
  if (f_L_isStore_I x1) = 0 then
    ((-1 : Int32), S)
  else
    let S2 : CS := u_sT S (vp_updL (sT S) x1.toNatClampNeg (f_I_told_J x2))
    ((0 : Int32), S2)
set_option maxHeartbeats 4000000 in
set_option maxRecDepth 100000 in
theorem c_L_keep_IJ (l : Launch) (dC : Nat → ClassId) (dI : Nat → Nat → Nat) (ad : Nat → Nat) (cJ cI : ClassId) (S : CS) (x1 : Int32) (x2 : Int64) (sz : Nat) : hMi l y_L_keep_IJ (gw y_L_keep_IJ b_L_keep_IJ 4 (some .int)) { frames := 2, cells := 0, slots := 0, locals := 42 } [.ref (ad 0), .int x1, .long x2] (dC, dI) classes (tysJI cJ cI) (fun _ => True) (cW ad cJ cI S) sz (f_L_keep_IJ S x1 x2).1 (cW ad cJ cI (f_L_keep_IJ S x1 x2).2) := by
  refine Met.ofW (cc := b_L_keep_IJ) (maxL := 4) (ret := (some .int)) (by decide) rfl ?_
  intro p e s m args below meth c s₁ B hml hv
  obtain ⟨rfl, hsz, hP, hK, hD0, hRT⟩ := hv
  have hx := B.exec
  have hb := B.bytes
  have hr := B.returns
  have hts := atoms_spec (ws := (gw y_L_keep_IJ b_L_keep_IJ 4 (some .int))) B.pre
  have hown : s.vm.findClass "MotionLab" = some m.cls := findClass_of_methodNamed B.named
  have hlocks := B.notSynchronized
  subst hsz
  have hD := hD0.self (sz := s.heap.size)
  generalize hAe : va_A (cW ad cJ cI S) s.heap.size = A at hD
  have hA : ∀ q : Nat, s.heap.size ≤ q → A q := fun q h => by rw [← hAe]; exact Or.inr h
  have G : hG (dC, dI) classes A s.heap (cW ad cJ cI S) s.heap [] := ⟨hP, hD, va_S.rf⟩
  have hl := lv_entry ([.ref (ad 0), .int x1, .long x2]) (n := 4) (Nat.le_of_ble_eq_true rfl)
  rw [lg_entry_eq]
  generalize (lg_sl ([.ref (ad 0), .int x1, .long x2]) ++ List.replicate (4 - (lg_sl ([.ref (ad 0), .int x1, .long x2])).length) Slot.unset).toArray = ls at hl ⊢
  have hl : lv_has ls 4 [(0, .ref (ad 0)), (1, .int x1), (2, .long x2)] := hl
  refine lv_iload_n hx hb d_L_keep_IJ_0 rfl (lv_at hl 1 rfl) ?_
  refine pu_i (As := [.int x1]) (rest := []) ⟨hx, hb, hml, hown, hts⟩ (c_L_isStore_I l _ x1) pu_pre (gw_call (k := 1) hts tw_290 tw_291 tw_1 tw_292 (by decide +kernel) rfl rfl ⟨Nat.le_of_ble_eq_true rfl, Nat.le_of_ble_eq_true rfl⟩) rfl hl.1 rfl (Nat.le_of_ble_eq_true rfl) ⟨Nat.zero_le _, Nat.zero_le _⟩ d_L_keep_IJ_1 ?_
  refine lv_if_ne (tgt := 9) hx hb d_L_keep_IJ_4 (by decide) (fun c1 => ?_) (fun c1 => ?_)
  · refine lv_aload_n hx hb d_L_keep_IJ_9 rfl (lv_at hl 0 rfl) ?_
    refine va_get (D := (dC, dI)) (ci := 0) (v := .ref (ad 2)) (C := R_L) (T := F_L) (N := 2) hx hb hts (fun w h => gm (i_L w h)) hown hK G.1 0 rfl rfl 1 (by decide) (hts _ (gm tw_58)) (fun _ h9 => h9) rfl d_L_keep_IJ_10 ?_
    refine lv_iload_n hx hb d_L_keep_IJ_13 rfl (lv_at hl 1 rfl) ?_
    refine lv_lload_n hx hb d_L_keep_IJ_14 rfl (lv_at hl 2 rfl) ?_
    refine pu_l (As := [.long x2]) (rest := [.int x1, .ref (ad 2)]) ⟨hx, hb, hml, hown, hts⟩ (c_I_told_J l _ x2) pu_pre (gw_call (k := 1) hts tw_293 tw_87 tw_5 tw_88 (by decide +kernel) rfl rfl ⟨Nat.le_of_ble_eq_true rfl, Nat.le_of_ble_eq_true rfl⟩) rfl hl.1 rfl (Nat.le_of_ble_eq_true rfl) ⟨Nat.zero_le _, Nat.zero_le _⟩ d_L_keep_IJ_15 ?_
    obtain ⟨S2, e2⟩ : ∃ z : CS, z = u_sT S (vp_updL (sT S) x1.toNatClampNeg (f_I_told_J x2)) := ⟨_, rfl⟩
    refine hg_last hx hb hK G 2 0 rfl rfl (in_isStore c1) d_L_keep_IJ_18 (cW ad cJ cI S2) (by rw [e2]; rfl) (fun H locs G => ?_)
    refine lv_iconst (v := 0) hx hb d_L_keep_IJ_19 (by decide) ?_
    exact hg_iret hx hb hr hlocks hK hAe G (by have qe2 := e2.symm; subst qe2; have e9 : f_L_keep_IJ S x1 x2 = _ := (if_neg c1); exact ⟨Eq.symm (congrArg Prod.fst e9), Eq.symm (congrArg (fun z => cW ad cJ cI z.2) e9)⟩) d_L_keep_IJ_20
  · refine lv_iconst (v := (-1)) hx hb d_L_keep_IJ_7 (by decide) ?_
    exact hg_iret hx hb hr hlocks hK hAe G (by have e9 : f_L_keep_IJ S x1 x2 = _ := (if_pos c1); exact ⟨Eq.symm (congrArg Prod.fst e9), Eq.symm (congrArg (fun z => cW ad cJ cI z.2) e9)⟩) d_L_keep_IJ_8
-- ===== MotionLab.reckon(IIII)J 
abbrev y_L_reckon_IIII : MethodName := ⟨"MotionLab", "reckon", "(IIII)J"⟩
abbrev b_L_reckon_IIII : ByteArray := prog_1_method_10_code
theorem d_L_reckon_IIII_0 : decode b_L_reckon_IIII 0 = .ok (.iload_n 1, 1) := by decide +kernel
theorem d_L_reckon_IIII_1 : decode b_L_reckon_IIII 1 = .ok (.ifCond .lt 31, 3) := by decide +kernel
theorem d_L_reckon_IIII_4 : decode b_L_reckon_IIII 4 = .ok (.iload_n 1, 1) := by decide +kernel
theorem d_L_reckon_IIII_5 : decode b_L_reckon_IIII 5 = .ok (.bipush 15, 2) := by decide +kernel
theorem d_L_reckon_IIII_7 : decode b_L_reckon_IIII 7 = .ok (.if_icmp .ge 25, 3) := by decide +kernel
theorem d_L_reckon_IIII_10 : decode b_L_reckon_IIII 10 = .ok (.iload_n 2, 1) := by decide +kernel
theorem d_L_reckon_IIII_11 : decode b_L_reckon_IIII 11 = .ok (.invokestatic 76, 3) := by decide +kernel
theorem d_L_reckon_IIII_14 : decode b_L_reckon_IIII 14 = .ok (.ifCond .eq 18, 3) := by decide +kernel
theorem d_L_reckon_IIII_17 : decode b_L_reckon_IIII 17 = .ok (.iload_n 3, 1) := by decide +kernel
theorem d_L_reckon_IIII_18 : decode b_L_reckon_IIII 18 = .ok (.invokestatic 76, 3) := by decide +kernel
theorem d_L_reckon_IIII_21 : decode b_L_reckon_IIII 21 = .ok (.ifCond .eq 11, 3) := by decide +kernel
theorem d_L_reckon_IIII_24 : decode b_L_reckon_IIII 24 = .ok (.iload 4, 2) := by decide +kernel
theorem d_L_reckon_IIII_26 : decode b_L_reckon_IIII 26 = .ok (.invokestatic 76, 3) := by decide +kernel
theorem d_L_reckon_IIII_29 : decode b_L_reckon_IIII 29 = .ok (.ifCond .ne 5, 3) := by decide +kernel
theorem d_L_reckon_IIII_32 : decode b_L_reckon_IIII 32 = .ok (.lconst 1, 1) := by decide +kernel
theorem d_L_reckon_IIII_33 : decode b_L_reckon_IIII 33 = .ok (.lreturn, 1) := by decide +kernel
theorem d_L_reckon_IIII_34 : decode b_L_reckon_IIII 34 = .ok (.aload_n 0, 1) := by decide +kernel
theorem d_L_reckon_IIII_35 : decode b_L_reckon_IIII 35 = .ok (.getfield 16, 3) := by decide +kernel
theorem d_L_reckon_IIII_38 : decode b_L_reckon_IIII 38 = .ok (.iload_n 2, 1) := by decide +kernel
theorem d_L_reckon_IIII_39 : decode b_L_reckon_IIII 39 = .ok (.iload_n 1, 1) := by decide +kernel
theorem d_L_reckon_IIII_40 : decode b_L_reckon_IIII 40 = .ok (.aload_n 0, 1) := by decide +kernel
theorem d_L_reckon_IIII_41 : decode b_L_reckon_IIII 41 = .ok (.getfield 16, 3) := by decide +kernel
theorem d_L_reckon_IIII_44 : decode b_L_reckon_IIII 44 = .ok (.iload_n 3, 1) := by decide +kernel
theorem d_L_reckon_IIII_45 : decode b_L_reckon_IIII 45 = .ok (.laload, 1) := by decide +kernel
theorem d_L_reckon_IIII_46 : decode b_L_reckon_IIII 46 = .ok (.aload_n 0, 1) := by decide +kernel
theorem d_L_reckon_IIII_47 : decode b_L_reckon_IIII 47 = .ok (.getfield 16, 3) := by decide +kernel
theorem d_L_reckon_IIII_50 : decode b_L_reckon_IIII 50 = .ok (.iload 4, 2) := by decide +kernel
theorem d_L_reckon_IIII_52 : decode b_L_reckon_IIII 52 = .ok (.laload, 1) := by decide +kernel
theorem d_L_reckon_IIII_53 : decode b_L_reckon_IIII 53 = .ok (.invokestatic 83, 3) := by decide +kernel
theorem d_L_reckon_IIII_56 : decode b_L_reckon_IIII 56 = .ok (.lastore, 1) := by decide +kernel
theorem d_L_reckon_IIII_57 : decode b_L_reckon_IIII 57 = .ok (.aload_n 0, 1) := by decide +kernel
theorem d_L_reckon_IIII_58 : decode b_L_reckon_IIII 58 = .ok (.getfield 16, 3) := by decide +kernel
theorem d_L_reckon_IIII_61 : decode b_L_reckon_IIII 61 = .ok (.iload_n 2, 1) := by decide +kernel
theorem d_L_reckon_IIII_62 : decode b_L_reckon_IIII 62 = .ok (.laload, 1) := by decide +kernel
theorem d_L_reckon_IIII_63 : decode b_L_reckon_IIII 63 = .ok (.lreturn, 1) := by decide +kernel
def f_L_reckon_IIII (S : CS) (x1 : Int32) (x2 : Int32) (x3 : Int32) (x4 : Int32) : Int64 × CS :=
  if x1 < 0 then
    ((1 : Int64), S)
  else
    if (15 : Int32) ≤ x1 then
      ((1 : Int64), S)
    else
      if (f_L_isStore_I x2) = 0 then
        ((1 : Int64), S)
      else
        if (f_L_isStore_I x3) = 0 then
          ((1 : Int64), S)
        else
          if (f_L_isStore_I x4) = 0 then
            ((1 : Int64), S)
          else
            let S6 : CS := u_sT S (vp_updL (sT S) x2.toNatClampNeg (f_L_result_IJJ x1 (sT S x3.toNatClampNeg) (sT S x4.toNatClampNeg)))
            (sT S6 x2.toNatClampNeg, S6)
set_option maxHeartbeats 4000000 in
set_option maxRecDepth 100000 in
theorem c_L_reckon_IIII (l : Launch) (dC : Nat → ClassId) (dI : Nat → Nat → Nat) (ad : Nat → Nat) (cJ cI : ClassId) (S : CS) (x1 : Int32) (x2 : Int32) (x3 : Int32) (x4 : Int32) (sz : Nat) : hMl l y_L_reckon_IIII (gw y_L_reckon_IIII b_L_reckon_IIII 5 (some .long)) { frames := 7, cells := 0, slots := 0, locals := 175 } [.ref (ad 0), .int x1, .int x2, .int x3, .int x4] (dC, dI) classes (tysJI cJ cI) (fun _ => True) (cW ad cJ cI S) sz (f_L_reckon_IIII S x1 x2 x3 x4).1 (cW ad cJ cI (f_L_reckon_IIII S x1 x2 x3 x4).2) := by
  refine Met.ofW (cc := b_L_reckon_IIII) (maxL := 5) (ret := (some .long)) (by decide) rfl ?_
  intro p e s m args below meth c s₁ B hml hv
  obtain ⟨rfl, hsz, hP, hK, hD0, hRT⟩ := hv
  have hx := B.exec
  have hb := B.bytes
  have hr := B.returns
  have hts := atoms_spec (ws := (gw y_L_reckon_IIII b_L_reckon_IIII 5 (some .long))) B.pre
  have hown : s.vm.findClass "MotionLab" = some m.cls := findClass_of_methodNamed B.named
  have hlocks := B.notSynchronized
  subst hsz
  have hD := hD0.self (sz := s.heap.size)
  generalize hAe : va_A (cW ad cJ cI S) s.heap.size = A at hD
  have hA : ∀ q : Nat, s.heap.size ≤ q → A q := fun q h => by rw [← hAe]; exact Or.inr h
  have G : hG (dC, dI) classes A s.heap (cW ad cJ cI S) s.heap [] := ⟨hP, hD, va_S.rf⟩
  have hl := lv_entry ([.ref (ad 0), .int x1, .int x2, .int x3, .int x4]) (n := 5) (Nat.le_of_ble_eq_true rfl)
  rw [lg_entry_eq]
  generalize (lg_sl ([.ref (ad 0), .int x1, .int x2, .int x3, .int x4]) ++ List.replicate (5 - (lg_sl ([.ref (ad 0), .int x1, .int x2, .int x3, .int x4])).length) Slot.unset).toArray = ls at hl ⊢
  have hl : lv_has ls 5 [(0, .ref (ad 0)), (1, .int x1), (2, .int x2), (3, .int x3), (4, .int x4)] := hl
  refine lv_iload_n hx hb d_L_reckon_IIII_0 rfl (lv_at hl 1 rfl) ?_
  refine lv_if_lt (tgt := 32) hx hb d_L_reckon_IIII_1 (by decide) (fun c1 => ?_) (fun c1 => ?_)
  · refine lv_lconst (v := (1 : Int64)) hx hb d_L_reckon_IIII_32 (by decide) ?_
    exact hg_lret hx hb hr hlocks hK hAe G (by have e9 : f_L_reckon_IIII S x1 x2 x3 x4 = _ := (if_pos c1); exact ⟨Eq.symm (congrArg Prod.fst e9), Eq.symm (congrArg (fun z => cW ad cJ cI z.2) e9)⟩) d_L_reckon_IIII_33
  · refine lv_iload_n hx hb d_L_reckon_IIII_4 rfl (lv_at hl 1 rfl) ?_
    refine lv_bipush (v := (15 : Int32)) hx hb d_L_reckon_IIII_5 (by decide) ?_
    refine lv_icmp_ge (tgt := 32) hx hb d_L_reckon_IIII_7 (by decide) (fun c2 => ?_) (fun c2 => ?_)
    · refine lv_lconst (v := (1 : Int64)) hx hb d_L_reckon_IIII_32 (by decide) ?_
      exact hg_lret hx hb hr hlocks hK hAe G (by have e9 : f_L_reckon_IIII S x1 x2 x3 x4 = _ := (Eq.trans (if_neg c1) (if_pos c2)); exact ⟨Eq.symm (congrArg Prod.fst e9), Eq.symm (congrArg (fun z => cW ad cJ cI z.2) e9)⟩) d_L_reckon_IIII_33
    · refine lv_iload_n hx hb d_L_reckon_IIII_10 rfl (lv_at hl 2 rfl) ?_
      refine pu_i (As := [.int x2]) (rest := []) ⟨hx, hb, hml, hown, hts⟩ (c_L_isStore_I l _ x2) pu_pre (gw_call (k := 1) hts tw_290 tw_291 tw_1 tw_292 (by decide +kernel) rfl rfl ⟨Nat.le_of_ble_eq_true rfl, Nat.le_of_ble_eq_true rfl⟩) rfl hl.1 rfl (Nat.le_of_ble_eq_true rfl) ⟨Nat.zero_le _, Nat.zero_le _⟩ d_L_reckon_IIII_11 ?_
      refine lv_if_eq (tgt := 32) hx hb d_L_reckon_IIII_14 (by decide) (fun c3 => ?_) (fun c3 => ?_)
      · refine lv_lconst (v := (1 : Int64)) hx hb d_L_reckon_IIII_32 (by decide) ?_
        exact hg_lret hx hb hr hlocks hK hAe G (by have e9 : f_L_reckon_IIII S x1 x2 x3 x4 = _ := (Eq.trans (if_neg c1) (Eq.trans (if_neg c2) (if_pos c3))); exact ⟨Eq.symm (congrArg Prod.fst e9), Eq.symm (congrArg (fun z => cW ad cJ cI z.2) e9)⟩) d_L_reckon_IIII_33
      · refine lv_iload_n hx hb d_L_reckon_IIII_17 rfl (lv_at hl 3 rfl) ?_
        refine pu_i (As := [.int x3]) (rest := []) ⟨hx, hb, hml, hown, hts⟩ (c_L_isStore_I l _ x3) pu_pre (gw_call (k := 1) hts tw_290 tw_291 tw_1 tw_292 (by decide +kernel) rfl rfl ⟨Nat.le_of_ble_eq_true rfl, Nat.le_of_ble_eq_true rfl⟩) rfl hl.1 rfl (Nat.le_of_ble_eq_true rfl) ⟨Nat.zero_le _, Nat.zero_le _⟩ d_L_reckon_IIII_18 ?_
        refine lv_if_eq (tgt := 32) hx hb d_L_reckon_IIII_21 (by decide) (fun c4 => ?_) (fun c4 => ?_)
        · refine lv_lconst (v := (1 : Int64)) hx hb d_L_reckon_IIII_32 (by decide) ?_
          exact hg_lret hx hb hr hlocks hK hAe G (by have e9 : f_L_reckon_IIII S x1 x2 x3 x4 = _ := (Eq.trans (if_neg c1) (Eq.trans (if_neg c2) (Eq.trans (if_neg c3) (if_pos c4)))); exact ⟨Eq.symm (congrArg Prod.fst e9), Eq.symm (congrArg (fun z => cW ad cJ cI z.2) e9)⟩) d_L_reckon_IIII_33
        · refine lv_iload hx hb d_L_reckon_IIII_24 (lv_at hl 4 rfl) ?_
          refine pu_i (As := [.int x4]) (rest := []) ⟨hx, hb, hml, hown, hts⟩ (c_L_isStore_I l _ x4) pu_pre (gw_call (k := 1) hts tw_290 tw_291 tw_1 tw_292 (by decide +kernel) rfl rfl ⟨Nat.le_of_ble_eq_true rfl, Nat.le_of_ble_eq_true rfl⟩) rfl hl.1 rfl (Nat.le_of_ble_eq_true rfl) ⟨Nat.zero_le _, Nat.zero_le _⟩ d_L_reckon_IIII_26 ?_
          refine lv_if_ne (tgt := 34) hx hb d_L_reckon_IIII_29 (by decide) (fun c5 => ?_) (fun c5 => ?_)
          · refine lv_aload_n hx hb d_L_reckon_IIII_34 rfl (lv_at hl 0 rfl) ?_
            refine va_get (D := (dC, dI)) (ci := 0) (v := .ref (ad 2)) (C := R_L) (T := F_L) (N := 2) hx hb hts (fun w h => gm (i_L w h)) hown hK G.1 0 rfl rfl 1 (by decide) (hts _ (gm tw_58)) (fun _ h9 => h9) rfl d_L_reckon_IIII_35 ?_
            refine lv_iload_n hx hb d_L_reckon_IIII_38 rfl (lv_at hl 2 rfl) ?_
            refine lv_iload_n hx hb d_L_reckon_IIII_39 rfl (lv_at hl 1 rfl) ?_
            refine lv_aload_n hx hb d_L_reckon_IIII_40 rfl (lv_at hl 0 rfl) ?_
            refine va_get (D := (dC, dI)) (ci := 0) (v := .ref (ad 2)) (C := R_L) (T := F_L) (N := 2) hx hb hts (fun w h => gm (i_L w h)) hown hK G.1 0 rfl rfl 1 (by decide) (hts _ (gm tw_58)) (fun _ h9 => h9) rfl d_L_reckon_IIII_41 ?_
            refine lv_iload_n hx hb d_L_reckon_IIII_44 rfl (lv_at hl 3 rfl) ?_
            refine va_lald hx hb hK G.1 2 0 rfl rfl (in_isStore c4) d_L_reckon_IIII_45 ?_
            refine lv_aload_n hx hb d_L_reckon_IIII_46 rfl (lv_at hl 0 rfl) ?_
            refine va_get (D := (dC, dI)) (ci := 0) (v := .ref (ad 2)) (C := R_L) (T := F_L) (N := 2) hx hb hts (fun w h => gm (i_L w h)) hown hK G.1 0 rfl rfl 1 (by decide) (hts _ (gm tw_58)) (fun _ h9 => h9) rfl d_L_reckon_IIII_47 ?_
            refine lv_iload hx hb d_L_reckon_IIII_50 (lv_at hl 4 rfl) ?_
            refine va_lald hx hb hK G.1 2 0 rfl rfl (in_isStore c5) d_L_reckon_IIII_52 ?_
            refine pu_l (As := [.int x1, .long (sT S x3.toNatClampNeg), .long (sT S x4.toNatClampNeg)]) (rest := [.int x2, .ref (ad 2)]) ⟨hx, hb, hml, hown, hts⟩ (c_L_result_IJJ l _ x1 (sT S x3.toNatClampNeg) (sT S x4.toNatClampNeg)) pu_pre (gw_call (k := 3) hts tw_298 tw_299 tw_1 tw_300 (by decide +kernel) rfl rfl ⟨Nat.le_of_ble_eq_true rfl, Nat.le_of_ble_eq_true rfl⟩) rfl hl.1 rfl (Nat.le_of_ble_eq_true rfl) ⟨Nat.zero_le _, Nat.zero_le _⟩ d_L_reckon_IIII_53 ?_
            obtain ⟨S6, e6⟩ : ∃ z : CS, z = u_sT S (vp_updL (sT S) x2.toNatClampNeg (f_L_result_IJJ x1 (sT S x3.toNatClampNeg) (sT S x4.toNatClampNeg))) := ⟨_, rfl⟩
            refine hg_last hx hb hK G 2 0 rfl rfl (in_isStore c3) d_L_reckon_IIII_56 (cW ad cJ cI S6) (by rw [e6]; rfl) (fun H locs G => ?_)
            refine lv_aload_n hx hb d_L_reckon_IIII_57 rfl (lv_at hl 0 rfl) ?_
            refine va_get (D := (dC, dI)) (ci := 0) (v := .ref (ad 2)) (C := R_L) (T := F_L) (N := 2) hx hb hts (fun w h => gm (i_L w h)) hown hK G.1 0 rfl rfl 1 (by decide) (hts _ (gm tw_58)) (fun _ h9 => h9) rfl d_L_reckon_IIII_58 ?_
            refine lv_iload_n hx hb d_L_reckon_IIII_61 rfl (lv_at hl 2 rfl) ?_
            refine va_lald hx hb hK G.1 2 0 rfl rfl (in_isStore c3) d_L_reckon_IIII_62 ?_
            exact hg_lret hx hb hr hlocks hK hAe G (by have qe6 := e6.symm; subst qe6; have e9 : f_L_reckon_IIII S x1 x2 x3 x4 = _ := (Eq.trans (if_neg c1) (Eq.trans (if_neg c2) (Eq.trans (if_neg c3) (Eq.trans (if_neg c4) (if_neg c5))))); exact ⟨Eq.symm (congrArg Prod.fst e9), Eq.symm (congrArg (fun z => cW ad cJ cI z.2) e9)⟩) d_L_reckon_IIII_63
          · refine lv_lconst (v := (1 : Int64)) hx hb d_L_reckon_IIII_32 (by decide) ?_
            exact hg_lret hx hb hr hlocks hK hAe G (by have e9 : f_L_reckon_IIII S x1 x2 x3 x4 = _ := (Eq.trans (if_neg c1) (Eq.trans (if_neg c2) (Eq.trans (if_neg c3) (Eq.trans (if_neg c4) (if_pos c5))))); exact ⟨Eq.symm (congrArg Prod.fst e9), Eq.symm (congrArg (fun z => cW ad cJ cI z.2) e9)⟩) d_L_reckon_IIII_33
-- ===== MotionLab.whole(IIJ)J 
abbrev y_L_whole_IIJ : MethodName := ⟨"MotionLab", "whole", "(IIJ)J"⟩
abbrev b_L_whole_IIJ : ByteArray := prog_1_method_11_code
theorem d_L_whole_IIJ_0 : decode b_L_whole_IIJ 0 = .ok (.iload_n 1, 1) := by decide +kernel
theorem d_L_whole_IIJ_1 : decode b_L_whole_IIJ 1 = .ok (.invokestatic 76, 3) := by decide +kernel
theorem d_L_whole_IIJ_4 : decode b_L_whole_IIJ 4 = .ok (.ifCond .eq 12, 3) := by decide +kernel
theorem d_L_whole_IIJ_7 : decode b_L_whole_IIJ 7 = .ok (.iload_n 2, 1) := by decide +kernel
theorem d_L_whole_IIJ_8 : decode b_L_whole_IIJ 8 = .ok (.ifCond .lt 8, 3) := by decide +kernel
theorem d_L_whole_IIJ_11 : decode b_L_whole_IIJ 11 = .ok (.iload_n 2, 1) := by decide +kernel
theorem d_L_whole_IIJ_12 : decode b_L_whole_IIJ 12 = .ok (.iconst 1, 1) := by decide +kernel
theorem d_L_whole_IIJ_13 : decode b_L_whole_IIJ 13 = .ok (.if_icmp .le 5, 3) := by decide +kernel
theorem d_L_whole_IIJ_16 : decode b_L_whole_IIJ 16 = .ok (.lconst 1, 1) := by decide +kernel
theorem d_L_whole_IIJ_17 : decode b_L_whole_IIJ 17 = .ok (.lreturn, 1) := by decide +kernel
theorem d_L_whole_IIJ_18 : decode b_L_whole_IIJ 18 = .ok (.aload_n 0, 1) := by decide +kernel
theorem d_L_whole_IIJ_19 : decode b_L_whole_IIJ 19 = .ok (.getfield 16, 3) := by decide +kernel
theorem d_L_whole_IIJ_22 : decode b_L_whole_IIJ 22 = .ok (.iload_n 1, 1) := by decide +kernel
theorem d_L_whole_IIJ_23 : decode b_L_whole_IIJ 23 = .ok (.iload_n 2, 1) := by decide +kernel
theorem d_L_whole_IIJ_24 : decode b_L_whole_IIJ 24 = .ok (.ifCond .ne 10, 3) := by decide +kernel
theorem d_L_whole_IIJ_27 : decode b_L_whole_IIJ 27 = .ok (.lload_n 3, 1) := by decide +kernel
theorem d_L_whole_IIJ_28 : decode b_L_whole_IIJ 28 = .ok (.invokestatic 87, 3) := by decide +kernel
theorem d_L_whole_IIJ_31 : decode b_L_whole_IIJ 31 = .ok (.goto 7, 3) := by decide +kernel
theorem d_L_whole_IIJ_34 : decode b_L_whole_IIJ 34 = .ok (.lload_n 3, 1) := by decide +kernel
theorem d_L_whole_IIJ_35 : decode b_L_whole_IIJ 35 = .ok (.invokestatic 90, 3) := by decide +kernel
theorem d_L_whole_IIJ_38 : decode b_L_whole_IIJ 38 = .ok (.lastore, 1) := by decide +kernel
theorem d_L_whole_IIJ_39 : decode b_L_whole_IIJ 39 = .ok (.aload_n 0, 1) := by decide +kernel
theorem d_L_whole_IIJ_40 : decode b_L_whole_IIJ 40 = .ok (.getfield 16, 3) := by decide +kernel
theorem d_L_whole_IIJ_43 : decode b_L_whole_IIJ 43 = .ok (.iload_n 1, 1) := by decide +kernel
theorem d_L_whole_IIJ_44 : decode b_L_whole_IIJ 44 = .ok (.laload, 1) := by decide +kernel
theorem d_L_whole_IIJ_45 : decode b_L_whole_IIJ 45 = .ok (.lreturn, 1) := by decide +kernel
def f_L_whole_IIJ (S : CS) (x1 : Int32) (x2 : Int32) (x3 : Int64) : Int64 × CS :=
  if (f_L_isStore_I x1) = 0 then
    ((1 : Int64), S)
  else
    if x2 < 0 then
      ((1 : Int64), S)
    else
      if x2 ≤ (1 : Int32) then
        if x2 = 0 then
          let S6 : CS := u_sT S (vp_updL (sT S) x1.toNatClampNeg (f_I_ofWhole_J x3))
          (sT S6 x1.toNatClampNeg, S6)
        else
          let S5 : CS := u_sT S (vp_updL (sT S) x1.toNatClampNeg (f_I_floatOfWhole_J x3))
          (sT S5 x1.toNatClampNeg, S5)
      else
        ((1 : Int64), S)
set_option maxHeartbeats 4000000 in
set_option maxRecDepth 100000 in
theorem c_L_whole_IIJ (l : Launch) (dC : Nat → ClassId) (dI : Nat → Nat → Nat) (ad : Nat → Nat) (cJ cI : ClassId) (S : CS) (x1 : Int32) (x2 : Int32) (x3 : Int64) (sz : Nat) : hMl l y_L_whole_IIJ (gw y_L_whole_IIJ b_L_whole_IIJ 5 (some .long)) { frames := 5, cells := 0, slots := 0, locals := 117 } [.ref (ad 0), .int x1, .int x2, .long x3] (dC, dI) classes (tysJI cJ cI) (fun _ => True) (cW ad cJ cI S) sz (f_L_whole_IIJ S x1 x2 x3).1 (cW ad cJ cI (f_L_whole_IIJ S x1 x2 x3).2) := by
  refine Met.ofW (cc := b_L_whole_IIJ) (maxL := 5) (ret := (some .long)) (by decide) rfl ?_
  intro p e s m args below meth c s₁ B hml hv
  obtain ⟨rfl, hsz, hP, hK, hD0, hRT⟩ := hv
  have hx := B.exec
  have hb := B.bytes
  have hr := B.returns
  have hts := atoms_spec (ws := (gw y_L_whole_IIJ b_L_whole_IIJ 5 (some .long))) B.pre
  have hown : s.vm.findClass "MotionLab" = some m.cls := findClass_of_methodNamed B.named
  have hlocks := B.notSynchronized
  subst hsz
  have hD := hD0.self (sz := s.heap.size)
  generalize hAe : va_A (cW ad cJ cI S) s.heap.size = A at hD
  have hA : ∀ q : Nat, s.heap.size ≤ q → A q := fun q h => by rw [← hAe]; exact Or.inr h
  have G : hG (dC, dI) classes A s.heap (cW ad cJ cI S) s.heap [] := ⟨hP, hD, va_S.rf⟩
  have hl := lv_entry ([.ref (ad 0), .int x1, .int x2, .long x3]) (n := 5) (Nat.le_of_ble_eq_true rfl)
  rw [lg_entry_eq]
  generalize (lg_sl ([.ref (ad 0), .int x1, .int x2, .long x3]) ++ List.replicate (5 - (lg_sl ([.ref (ad 0), .int x1, .int x2, .long x3])).length) Slot.unset).toArray = ls at hl ⊢
  have hl : lv_has ls 5 [(0, .ref (ad 0)), (1, .int x1), (2, .int x2), (3, .long x3)] := hl
  refine lv_iload_n hx hb d_L_whole_IIJ_0 rfl (lv_at hl 1 rfl) ?_
  refine pu_i (As := [.int x1]) (rest := []) ⟨hx, hb, hml, hown, hts⟩ (c_L_isStore_I l _ x1) pu_pre (gw_call (k := 1) hts tw_290 tw_291 tw_1 tw_292 (by decide +kernel) rfl rfl ⟨Nat.le_of_ble_eq_true rfl, Nat.le_of_ble_eq_true rfl⟩) rfl hl.1 rfl (Nat.le_of_ble_eq_true rfl) ⟨Nat.zero_le _, Nat.zero_le _⟩ d_L_whole_IIJ_1 ?_
  refine lv_if_eq (tgt := 16) hx hb d_L_whole_IIJ_4 (by decide) (fun c1 => ?_) (fun c1 => ?_)
  · refine lv_lconst (v := (1 : Int64)) hx hb d_L_whole_IIJ_16 (by decide) ?_
    exact hg_lret hx hb hr hlocks hK hAe G (by have e9 : f_L_whole_IIJ S x1 x2 x3 = _ := (if_pos c1); exact ⟨Eq.symm (congrArg Prod.fst e9), Eq.symm (congrArg (fun z => cW ad cJ cI z.2) e9)⟩) d_L_whole_IIJ_17
  · refine lv_iload_n hx hb d_L_whole_IIJ_7 rfl (lv_at hl 2 rfl) ?_
    refine lv_if_lt (tgt := 16) hx hb d_L_whole_IIJ_8 (by decide) (fun c2 => ?_) (fun c2 => ?_)
    · refine lv_lconst (v := (1 : Int64)) hx hb d_L_whole_IIJ_16 (by decide) ?_
      exact hg_lret hx hb hr hlocks hK hAe G (by have e9 : f_L_whole_IIJ S x1 x2 x3 = _ := (Eq.trans (if_neg c1) (if_pos c2)); exact ⟨Eq.symm (congrArg Prod.fst e9), Eq.symm (congrArg (fun z => cW ad cJ cI z.2) e9)⟩) d_L_whole_IIJ_17
    · refine lv_iload_n hx hb d_L_whole_IIJ_11 rfl (lv_at hl 2 rfl) ?_
      refine lv_iconst (v := 1) hx hb d_L_whole_IIJ_12 (by decide) ?_
      refine lv_icmp_le (tgt := 18) hx hb d_L_whole_IIJ_13 (by decide) (fun c3 => ?_) (fun c3 => ?_)
      · refine lv_aload_n hx hb d_L_whole_IIJ_18 rfl (lv_at hl 0 rfl) ?_
        refine va_get (D := (dC, dI)) (ci := 0) (v := .ref (ad 2)) (C := R_L) (T := F_L) (N := 2) hx hb hts (fun w h => gm (i_L w h)) hown hK G.1 0 rfl rfl 1 (by decide) (hts _ (gm tw_58)) (fun _ h9 => h9) rfl d_L_whole_IIJ_19 ?_
        refine lv_iload_n hx hb d_L_whole_IIJ_22 rfl (lv_at hl 1 rfl) ?_
        refine lv_iload_n hx hb d_L_whole_IIJ_23 rfl (lv_at hl 2 rfl) ?_
        refine lv_if_ne (tgt := 34) hx hb d_L_whole_IIJ_24 (by decide) (fun c4 => ?_) (fun c4 => ?_)
        · refine lv_lload_n hx hb d_L_whole_IIJ_34 rfl (lv_at hl 3 rfl) ?_
          refine pu_l (As := [.long x3]) (rest := [.int x1, .ref (ad 2)]) ⟨hx, hb, hml, hown, hts⟩ (c_I_floatOfWhole_J l _ x3) pu_pre (gw_call (k := 1) hts tw_335 tw_336 tw_5 tw_337 (by decide +kernel) rfl rfl ⟨Nat.le_of_ble_eq_true rfl, Nat.le_of_ble_eq_true rfl⟩) rfl hl.1 rfl (Nat.le_of_ble_eq_true rfl) ⟨Nat.zero_le _, Nat.zero_le _⟩ d_L_whole_IIJ_35 ?_
          obtain ⟨S5, e5⟩ : ∃ z : CS, z = u_sT S (vp_updL (sT S) x1.toNatClampNeg (f_I_floatOfWhole_J x3)) := ⟨_, rfl⟩
          refine hg_last hx hb hK G 2 0 rfl rfl (in_isStore c1) d_L_whole_IIJ_38 (cW ad cJ cI S5) (by rw [e5]; rfl) (fun H locs G => ?_)
          refine lv_aload_n hx hb d_L_whole_IIJ_39 rfl (lv_at hl 0 rfl) ?_
          refine va_get (D := (dC, dI)) (ci := 0) (v := .ref (ad 2)) (C := R_L) (T := F_L) (N := 2) hx hb hts (fun w h => gm (i_L w h)) hown hK G.1 0 rfl rfl 1 (by decide) (hts _ (gm tw_58)) (fun _ h9 => h9) rfl d_L_whole_IIJ_40 ?_
          refine lv_iload_n hx hb d_L_whole_IIJ_43 rfl (lv_at hl 1 rfl) ?_
          refine va_lald hx hb hK G.1 2 0 rfl rfl (in_isStore c1) d_L_whole_IIJ_44 ?_
          exact hg_lret hx hb hr hlocks hK hAe G (by have qe5 := e5.symm; subst qe5; have e9 : f_L_whole_IIJ S x1 x2 x3 = _ := (Eq.trans (if_neg c1) (Eq.trans (if_neg c2) (Eq.trans (if_pos c3) (if_neg c4)))); exact ⟨Eq.symm (congrArg Prod.fst e9), Eq.symm (congrArg (fun z => cW ad cJ cI z.2) e9)⟩) d_L_whole_IIJ_45
        · refine lv_lload_n hx hb d_L_whole_IIJ_27 rfl (lv_at hl 3 rfl) ?_
          refine pu_l (As := [.long x3]) (rest := [.int x1, .ref (ad 2)]) ⟨hx, hb, hml, hown, hts⟩ (c_I_ofWhole_J l _ x3) pu_pre (gw_call (k := 1) hts tw_329 tw_330 tw_5 tw_331 (by decide +kernel) rfl rfl ⟨Nat.le_of_ble_eq_true rfl, Nat.le_of_ble_eq_true rfl⟩) rfl hl.1 rfl (Nat.le_of_ble_eq_true rfl) ⟨Nat.zero_le _, Nat.zero_le _⟩ d_L_whole_IIJ_28 ?_
          refine lv_goto (tgt := 38) hx hb d_L_whole_IIJ_31 (by decide) ?_
          obtain ⟨S6, e6⟩ : ∃ z : CS, z = u_sT S (vp_updL (sT S) x1.toNatClampNeg (f_I_ofWhole_J x3)) := ⟨_, rfl⟩
          refine hg_last hx hb hK G 2 0 rfl rfl (in_isStore c1) d_L_whole_IIJ_38 (cW ad cJ cI S6) (by rw [e6]; rfl) (fun H locs G => ?_)
          refine lv_aload_n hx hb d_L_whole_IIJ_39 rfl (lv_at hl 0 rfl) ?_
          refine va_get (D := (dC, dI)) (ci := 0) (v := .ref (ad 2)) (C := R_L) (T := F_L) (N := 2) hx hb hts (fun w h => gm (i_L w h)) hown hK G.1 0 rfl rfl 1 (by decide) (hts _ (gm tw_58)) (fun _ h9 => h9) rfl d_L_whole_IIJ_40 ?_
          refine lv_iload_n hx hb d_L_whole_IIJ_43 rfl (lv_at hl 1 rfl) ?_
          refine va_lald hx hb hK G.1 2 0 rfl rfl (in_isStore c1) d_L_whole_IIJ_44 ?_
          exact hg_lret hx hb hr hlocks hK hAe G (by have qe6 := e6.symm; subst qe6; have e9 : f_L_whole_IIJ S x1 x2 x3 = _ := (Eq.trans (if_neg c1) (Eq.trans (if_neg c2) (Eq.trans (if_pos c3) (if_pos c4)))); exact ⟨Eq.symm (congrArg Prod.fst e9), Eq.symm (congrArg (fun z => cW ad cJ cI z.2) e9)⟩) d_L_whole_IIJ_45
      · refine lv_lconst (v := (1 : Int64)) hx hb d_L_whole_IIJ_16 (by decide) ?_
        exact hg_lret hx hb hr hlocks hK hAe G (by have e9 : f_L_whole_IIJ S x1 x2 x3 = _ := (Eq.trans (if_neg c1) (Eq.trans (if_neg c2) (if_neg c3))); exact ⟨Eq.symm (congrArg Prod.fst e9), Eq.symm (congrArg (fun z => cW ad cJ cI z.2) e9)⟩) d_L_whole_IIJ_17
