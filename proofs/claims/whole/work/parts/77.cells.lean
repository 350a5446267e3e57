-- ===== MotionLabModel.step(I)I 
abbrev y_M_step_I : MethodName := ⟨"MotionLabModel", "step", "(I)I"⟩
abbrev b_M_step_I : ByteArray := prog_6_method_44_code
theorem d_M_step_I_0 : decode b_M_step_I 0 = .ok (.iload_n 1, 1) := by decide +kernel
theorem d_M_step_I_1 : decode b_M_step_I 1 = .ok (.ifCond .lt 9, 3) := by decide +kernel
theorem d_M_step_I_4 : decode b_M_step_I 4 = .ok (.iload_n 1, 1) := by decide +kernel
theorem d_M_step_I_5 : decode b_M_step_I 5 = .ok (.bipush 20, 2) := by decide +kernel
theorem d_M_step_I_7 : decode b_M_step_I 7 = .ok (.if_icmp .le 5, 3) := by decide +kernel
theorem d_M_step_I_10 : decode b_M_step_I 10 = .ok (.iconst (-1), 1) := by decide +kernel
theorem d_M_step_I_11 : decode b_M_step_I 11 = .ok (.ireturn, 1) := by decide +kernel
theorem d_M_step_I_12 : decode b_M_step_I 12 = .ok (.iconst 0, 1) := by decide +kernel
theorem d_M_step_I_13 : decode b_M_step_I 13 = .ok (.istore_n 2, 1) := by decide +kernel
theorem d_M_step_I_14 : decode b_M_step_I 14 = .ok (.iload_n 2, 1) := by decide +kernel
theorem d_M_step_I_15 : decode b_M_step_I 15 = .ok (.iload_n 1, 1) := by decide +kernel
theorem d_M_step_I_16 : decode b_M_step_I 16 = .ok (.if_icmp .ge 13, 3) := by decide +kernel
theorem d_M_step_I_19 : decode b_M_step_I 19 = .ok (.aload_n 0, 1) := by decide +kernel
theorem d_M_step_I_20 : decode b_M_step_I 20 = .ok (.invokevirtual 244, 3) := by decide +kernel
theorem d_M_step_I_23 : decode b_M_step_I 23 = .ok (.iinc 2 1, 3) := by decide +kernel
theorem d_M_step_I_26 : decode b_M_step_I 26 = .ok (.goto (-12), 3) := by decide +kernel
theorem d_M_step_I_29 : decode b_M_step_I 29 = .ok (.iconst 0, 1) := by decide +kernel
theorem d_M_step_I_30 : decode b_M_step_I 30 = .ok (.ireturn, 1) := by decide +kernel
def f_M_step_I_14 : Nat → MS → Int32 → Int32 → Int32 × MS
  | 0, S, _, _ => (0, S)
  | n + 1, S, x1, x2 =>
    if x1 ≤ x2 then
      ((0 : Int32), S)
    else
      let S2 : MS := f_M_once S
      let v3 : Int32 := x2 + 1
      f_M_step_I_14 n S2 x1 v3
set_option maxHeartbeats 2000000 in
set_option maxRecDepth 100000 in
theorem k_M_step_I_14 {p : Program} {l : Launch} {e : Env} {s : State} {m : MethodId} {args : Array Value} {below : List Frame} {meth : Method} {c : Code} {A : Nat → Prop} {dC : Nat → ClassId} {dI : Nat → Nat → Nat} {ad : Nat → Nat} {cJ cI : ClassId} {W0 : va_W} {sz : Nat} (C0 : pu_C p s m args meth c b_M_step_I 3 "MotionLabModel" (some .int) (gw y_M_step_I b_M_step_I 3 (some .int))) {t0 t1 t2 : Nat} (hRT : RTA t0 t1 t2 A s s.heap) (hK : va_K (dC, dI) classes (tysJI cJ cI) s) (hAe : va_A W0 sz = A) (hA : ∀ q : Nat, s.heap.size ≤ q → A q) (n : Nat) : ∀ (S : MS) (x1 : Int32) (x2 : Int32) (hOK : mOK S) (hinv : ∃ j : Nat, x2 = nI j ∧ j ≤ x1.toNatClampNeg ∧ x1.toNatClampNeg - j < n) (H : Heap) (locs : List Loc) (G : hG (dC, dI) classes A s.heap (mW ad cJ cI S) H locs) (ls : Array Slot) (hl : lv_has ls 3 [(0, .ref (ad 0)), (1, .int x1), (2, .int x2)]) {w : Int32 × MS} (hw : w = f_M_step_I_14 n S x1 x2), W p l e (headSpec (gw y_M_step_I b_M_step_I 3 (some .int)) ({ frames := 10, cells := 0, slots := 0, locals := 267 } : Room)).room s m args below meth c H locs 0 0 (MQ below (hQi (dC, dI) classes (tysJI cJ cI) W0 sz w.1 (mW ad cJ cI w.2)) args s 0 0 A) (F0 m 14 ls []) := by
  obtain ⟨hx, hb, hml, hown, hts, hr, hlocks⟩ := id C0
  induction n with
  | zero => intro S x1 x2 hOK hinv H locs G ls hl w hw; exact (fl_zero hinv).elim
  | succ n ih =>
    intro S x1 x2 hOK hinv H locs G ls hl w hw
    refine lv_iload_n hx hb d_M_step_I_14 rfl (lv_at hl 2 rfl) ?_
    refine lv_iload_n hx hb d_M_step_I_15 rfl (lv_at hl 1 rfl) ?_
    refine lv_icmp_ge (tgt := 29) hx hb d_M_step_I_16 (by decide) (fun c1 => ?_) (fun c1 => ?_)
    · refine lv_iconst (v := 0) hx hb d_M_step_I_29 (by decide) ?_
      exact hg_iret hx hb hr hlocks hK hAe G (by have e9 : w = ((0 : Int32), S) := (by exact hw.trans (if_pos c1)); exact ⟨Eq.symm (congrArg Prod.fst e9), Eq.symm (congrArg (fun z => mW ad cJ cI z.2) e9)⟩) d_M_step_I_30
    · refine lv_aload_n hx hb d_M_step_I_19 rfl (lv_at hl 0 rfl) ?_
      obtain ⟨S2, e2⟩ : ∃ z : MS, z = f_M_once S := ⟨_, rfl⟩
      refine hg_cv (As := []) (rest := []) ⟨hx, hb, hml, hown, hts⟩ (c_M_once l dC dI ad cJ cI t0 t1 t2 S hOK _) (gw_callV (k := 0) hts tw_566 tw_568 tp_9 tw_4 tw_569 (by decide +kernel) rfl rfl ⟨Nat.le_of_ble_eq_true rfl, Nat.le_of_ble_eq_true rfl⟩) hK G hA (hx_M hRT G hA) 3 0 rfl rfl rfl hl.1 rfl (Nat.le_of_ble_eq_true rfl) ⟨Nat.zero_le _, Nat.zero_le _⟩ d_M_step_I_20 (fun H locs G => ?_)
      rw [← e2] at G
      obtain ⟨v3, e3⟩ : ∃ y : Int32, y = x2 + 1 := ⟨_, rfl⟩
      refine lv_iinc (v := v3) (lv' := [(2, .int v3), (0, .ref (ad 0)), (1, .int x1)]) hx hb d_M_step_I_23 hl (k := 2) rfl (by rw [e3]; rfl) (by decide) rfl (fun ls hl => ?_)
      refine lv_goto (tgt := 14) hx hb d_M_step_I_26 (by decide) ?_
      exact ih S2 x1 v3 (by rw [e2]; exact ok_once hOK) (by rw [e3]; exact fl_up hinv c1) _ _ G ls (lv_sub hl [1, 2, 0] rfl) (by have qe2 := e2.symm; have qe3 := e3.symm; subst qe2 qe3; rw [hw, f_M_step_I_14, if_neg c1])
def f_M_step_I (S : MS) (x1 : Int32) : Int32 × MS :=
  if x1 < 0 then
    ((-1 : Int32), S)
  else
    if x1 ≤ (20 : Int32) then
      f_M_step_I_14 (x1.toNatClampNeg + 1) S x1 (0 : Int32)
    else
      ((-1 : Int32), S)
set_option maxHeartbeats 2000000 in
set_option maxRecDepth 100000 in
theorem c_M_step_I (l : Launch) (dC : Nat → ClassId) (dI : Nat → Nat → Nat) (ad : Nat → Nat) (cJ cI : ClassId) (t0 t1 t2 : Nat) (S : MS) (x1 : Int32) (hOK : mOK S) (sz : Nat) : hMi l y_M_step_I (gw y_M_step_I b_M_step_I 3 (some .int)) { frames := 10, cells := 0, slots := 0, locals := 267 } [.ref (ad 0), .int x1] (dC, dI) classes (tysJI cJ cI) (hE_M t0 t1 t2 (mW ad cJ cI S) sz) (mW ad cJ cI S) sz (f_M_step_I S x1).1 (mW ad cJ cI (f_M_step_I S x1).2) := by
  refine Met.ofW (cc := b_M_step_I) (maxL := 3) (ret := (some .int)) (by decide) rfl ?_
  intro p e s m args below meth c s₁ B hml hv
  obtain ⟨rfl, hsz, hP, hK, hD0, hRT⟩ := hv
  have hx := B.exec
  have hb := B.bytes
  have hr := B.returns
  have hts := atoms_spec (ws := (gw y_M_step_I b_M_step_I 3 (some .int))) B.pre
  have hown : s.vm.findClass "MotionLabModel" = some m.cls := findClass_of_methodNamed B.named
  have hlocks := B.notSynchronized
  have C0 : pu_C p s m _ meth c b_M_step_I 3 "MotionLabModel" (some .int) (gw y_M_step_I b_M_step_I 3 (some .int)) := ⟨hx, hb, hml, hown, hts, hr, hlocks⟩
  subst hsz
  have hD := hD0.self (sz := s.heap.size)
  have hRT : RTA t0 t1 t2 (va_A (mW ad cJ cI S) s.heap.size) s s.heap := hRT
  generalize hAe : va_A (mW ad cJ cI S) s.heap.size = A at hD hRT
  have hA : ∀ q : Nat, s.heap.size ≤ q → A q := fun q h => by rw [← hAe]; exact Or.inr h
  have G : hG (dC, dI) classes A s.heap (mW ad cJ cI S) s.heap [] := ⟨hP, hD, va_S.rf⟩
  have hl := lv_entry ([.ref (ad 0), .int x1]) (n := 3) (Nat.le_of_ble_eq_true rfl)
  rw [lg_entry_eq]
  generalize (lg_sl ([.ref (ad 0), .int x1]) ++ List.replicate (3 - (lg_sl ([.ref (ad 0), .int x1])).length) Slot.unset).toArray = ls at hl ⊢
  have hl : lv_has ls 3 [(0, .ref (ad 0)), (1, .int x1)] := hl
  refine lv_iload_n hx hb d_M_step_I_0 rfl (lv_at hl 1 rfl) ?_
  refine lv_if_lt (tgt := 10) hx hb d_M_step_I_1 (by decide) (fun c1 => ?_) (fun c1 => ?_)
  · refine lv_iconst (v := (-1)) hx hb d_M_step_I_10 (by decide) ?_
    exact hg_iret hx hb hr hlocks hK hAe G (by unfold f_M_step_I; rw [if_pos c1]; exact ⟨rfl, rfl⟩) d_M_step_I_11
  · refine lv_iload_n hx hb d_M_step_I_4 rfl (lv_at hl 1 rfl) ?_
    refine lv_bipush (v := (20 : Int32)) hx hb d_M_step_I_5 (by decide) ?_
    refine lv_icmp_le (tgt := 12) hx hb d_M_step_I_7 (by decide) (fun c2 => ?_) (fun c2 => ?_)
    · refine lv_iconst (v := 0) hx hb d_M_step_I_12 (by decide) ?_
      refine lv_istore_n (lv' := [(2, .int (0 : Int32)), (0, .ref (ad 0)), (1, .int x1)]) hx hb d_M_step_I_13 rfl hl (by decide) rfl (fun ls hl => ?_)
      exact k_M_step_I_14 C0 hRT hK hAe hA (x1.toNatClampNeg + 1) S x1 (0 : Int32) hOK fl_first _ _ G ls (lv_sub hl [1, 2, 0] rfl) (by exact (Eq.trans (if_neg c1) (if_pos c2)))
    · refine lv_iconst (v := (-1)) hx hb d_M_step_I_10 (by decide) ?_
      exact hg_iret hx hb hr hlocks hK hAe G (by unfold f_M_step_I; rw [if_neg c1, if_neg c2]; exact ⟨rfl, rfl⟩) d_M_step_I_11
-- ===== MotionLabModel.number(II)J 
abbrev y_M_number_II : MethodName := ⟨"MotionLabModel", "number", "(II)J"⟩
abbrev b_M_number_II : ByteArray := prog_6_method_45_code
theorem d_M_number_II_0 : decode b_M_number_II 0 = .ok (.iload_n 2, 1) := by decide +kernel
theorem d_M_number_II_1 : decode b_M_number_II 1 = .ok (.tableswitch 73 0 4 #[35, 42, 49, 56, 63], 35) := by decide +kernel
theorem d_M_number_II_36 : decode b_M_number_II 36 = .ok (.aload_n 0, 1) := by decide +kernel
theorem d_M_number_II_37 : decode b_M_number_II 37 = .ok (.getfield 133, 3) := by decide +kernel
theorem d_M_number_II_40 : decode b_M_number_II 40 = .ok (.iload_n 1, 1) := by decide +kernel
theorem d_M_number_II_41 : decode b_M_number_II 41 = .ok (.laload, 1) := by decide +kernel
theorem d_M_number_II_42 : decode b_M_number_II 42 = .ok (.lreturn, 1) := by decide +kernel
theorem d_M_number_II_43 : decode b_M_number_II 43 = .ok (.aload_n 0, 1) := by decide +kernel
theorem d_M_number_II_44 : decode b_M_number_II 44 = .ok (.getfield 137, 3) := by decide +kernel
theorem d_M_number_II_47 : decode b_M_number_II 47 = .ok (.iload_n 1, 1) := by decide +kernel
theorem d_M_number_II_48 : decode b_M_number_II 48 = .ok (.laload, 1) := by decide +kernel
theorem d_M_number_II_49 : decode b_M_number_II 49 = .ok (.lreturn, 1) := by decide +kernel
theorem d_M_number_II_50 : decode b_M_number_II 50 = .ok (.aload_n 0, 1) := by decide +kernel
theorem d_M_number_II_51 : decode b_M_number_II 51 = .ok (.getfield 140, 3) := by decide +kernel
theorem d_M_number_II_54 : decode b_M_number_II 54 = .ok (.iload_n 1, 1) := by decide +kernel
theorem d_M_number_II_55 : decode b_M_number_II 55 = .ok (.laload, 1) := by decide +kernel
theorem d_M_number_II_56 : decode b_M_number_II 56 = .ok (.lreturn, 1) := by decide +kernel
theorem d_M_number_II_57 : decode b_M_number_II 57 = .ok (.aload_n 0, 1) := by decide +kernel
theorem d_M_number_II_58 : decode b_M_number_II 58 = .ok (.getfield 143, 3) := by decide +kernel
theorem d_M_number_II_61 : decode b_M_number_II 61 = .ok (.iload_n 1, 1) := by decide +kernel
theorem d_M_number_II_62 : decode b_M_number_II 62 = .ok (.laload, 1) := by decide +kernel
theorem d_M_number_II_63 : decode b_M_number_II 63 = .ok (.lreturn, 1) := by decide +kernel
theorem d_M_number_II_64 : decode b_M_number_II 64 = .ok (.aload_n 0, 1) := by decide +kernel
theorem d_M_number_II_65 : decode b_M_number_II 65 = .ok (.getfield 146, 3) := by decide +kernel
theorem d_M_number_II_68 : decode b_M_number_II 68 = .ok (.iload_n 1, 1) := by decide +kernel
theorem d_M_number_II_69 : decode b_M_number_II 69 = .ok (.laload, 1) := by decide +kernel
theorem d_M_number_II_70 : decode b_M_number_II 70 = .ok (.invokestatic 229, 3) := by decide +kernel
theorem d_M_number_II_73 : decode b_M_number_II 73 = .ok (.lreturn, 1) := by decide +kernel
theorem d_M_number_II_74 : decode b_M_number_II 74 = .ok (.aload_n 0, 1) := by decide +kernel
theorem d_M_number_II_75 : decode b_M_number_II 75 = .ok (.getfield 149, 3) := by decide +kernel
theorem d_M_number_II_78 : decode b_M_number_II 78 = .ok (.iload_n 1, 1) := by decide +kernel
theorem d_M_number_II_79 : decode b_M_number_II 79 = .ok (.laload, 1) := by decide +kernel
theorem d_M_number_II_80 : decode b_M_number_II 80 = .ok (.invokestatic 229, 3) := by decide +kernel
theorem d_M_number_II_83 : decode b_M_number_II 83 = .ok (.lreturn, 1) := by decide +kernel
def f_M_number_II (S : MS) (x1 : Int32) (x2 : Int32) : Int64 :=
  if x2 = 0 then
    m_x S x1.toNatClampNeg
  else
    if x2 = 1 then
      m_y S x1.toNatClampNeg
    else
      if x2 = 2 then
        m_u S x1.toNatClampNeg
      else
        if x2 = 3 then
          m_v S x1.toNatClampNeg
        else
          if x2 = 4 then
            f_M_toDouble_J (m_m S x1.toNatClampNeg)
          else
            f_M_toDouble_J (m_r S x1.toNatClampNeg)
set_option maxHeartbeats 2000000 in
set_option maxRecDepth 100000 in
theorem c_M_number_II (l : Launch) (dC : Nat → ClassId) (dI : Nat → Nat → Nat) (ad : Nat → Nat) (cJ cI : ClassId) (t0 t1 t2 : Nat) (S : MS) (x1 : Int32) (x2 : Int32) (hk_x1 : vp_in x1 8) (sz : Nat) : hMl l y_M_number_II (gw y_M_number_II b_M_number_II 3 (some .long)) { frames := 6, cells := 0, slots := 0, locals := 145 } [.ref (ad 0), .int x1, .int x2] (dC, dI) classes (tysJI cJ cI) (hE_M t0 t1 t2 (mW ad cJ cI S) sz) (mW ad cJ cI S) sz (f_M_number_II S x1 x2) (mW ad cJ cI S) := by
  refine Met.ofW (cc := b_M_number_II) (maxL := 3) (ret := (some .long)) (by decide) rfl ?_
  intro p e s m args below meth c s₁ B hml hv
  obtain ⟨rfl, hsz, hP, hK, hD0, hRT⟩ := hv
  have hx := B.exec
  have hb := B.bytes
  have hr := B.returns
  have hts := atoms_spec (ws := (gw y_M_number_II b_M_number_II 3 (some .long))) B.pre
  have hown : s.vm.findClass "MotionLabModel" = some m.cls := findClass_of_methodNamed B.named
  have hlocks := B.notSynchronized
  subst hsz
  have hD := hD0.self (sz := s.heap.size)
  have hRT : RTA t0 t1 t2 (va_A (mW ad cJ cI S) s.heap.size) s s.heap := hRT
  generalize hAe : va_A (mW ad cJ cI S) s.heap.size = A at hD hRT
  have hA : ∀ q : Nat, s.heap.size ≤ q → A q := fun q h => by rw [← hAe]; exact Or.inr h
  have G : hG (dC, dI) classes A s.heap (mW ad cJ cI S) s.heap [] := ⟨hP, hD, va_S.rf⟩
  have hl := lv_entry ([.ref (ad 0), .int x1, .int x2]) (n := 3) (Nat.le_of_ble_eq_true rfl)
  rw [lg_entry_eq]
  generalize (lg_sl ([.ref (ad 0), .int x1, .int x2]) ++ List.replicate (3 - (lg_sl ([.ref (ad 0), .int x1, .int x2])).length) Slot.unset).toArray = ls at hl ⊢
  have hl : lv_has ls 3 [(0, .ref (ad 0)), (1, .int x1), (2, .int x2)] := hl
  refine lv_iload_n hx hb d_M_number_II_0 rfl (lv_at hl 2 rfl) ?_
  by_cases c1 : x2 = 0
  · refine lv_tableIn (off := 35) (tgt := 36) hx hb d_M_number_II_1 (by rw [c1]; decide) (by rw [c1]; decide) (by rw [c1]; rfl) (by decide) ?_
    refine lv_aload_n hx hb d_M_number_II_36 rfl (lv_at hl 0 rfl) ?_
    refine va_get (D := (dC, dI)) (ci := 3) (v := .ref (ad 1)) (C := R_M) (T := F_M) (N := 21) hx hb hts (fun w h => gm (i_M w h)) hown hK G.1 0 rfl rfl 0 (by decide) (hts _ (gm tw_421)) (fun _ h9 => h9) rfl d_M_number_II_37 ?_
    refine lv_iload_n hx hb d_M_number_II_40 rfl (lv_at hl 1 rfl) ?_
    refine va_lald hx hb hK G.1 1 0 rfl rfl hk_x1 d_M_number_II_41 ?_
    exact hg_lret hx hb hr hlocks hK hAe G (by have e9 : f_M_number_II S x1 x2 = m_x S x1.toNatClampNeg := (by exact (if_pos c1)); exact ⟨Eq.symm e9, rfl⟩) d_M_number_II_42
  · skip
    by_cases c2 : x2 = 1
    · refine lv_tableIn (off := 42) (tgt := 43) hx hb d_M_number_II_1 (by rw [c2]; decide) (by rw [c2]; decide) (by rw [c2]; rfl) (by decide) ?_
      refine lv_aload_n hx hb d_M_number_II_43 rfl (lv_at hl 0 rfl) ?_
      refine va_get (D := (dC, dI)) (ci := 3) (v := .ref (ad 2)) (C := R_M) (T := F_M) (N := 21) hx hb hts (fun w h => gm (i_M w h)) hown hK G.1 0 rfl rfl 1 (by decide) (hts _ (gm tw_422)) (fun _ h9 => h9) rfl d_M_number_II_44 ?_
      refine lv_iload_n hx hb d_M_number_II_47 rfl (lv_at hl 1 rfl) ?_
      refine va_lald hx hb hK G.1 2 0 rfl rfl hk_x1 d_M_number_II_48 ?_
      exact hg_lret hx hb hr hlocks hK hAe G (by have e9 : f_M_number_II S x1 x2 = m_y S x1.toNatClampNeg := (by exact (Eq.trans (if_neg c1) (if_pos c2))); exact ⟨Eq.symm e9, rfl⟩) d_M_number_II_49
    · skip
      by_cases c3 : x2 = 2
      · refine lv_tableIn (off := 49) (tgt := 50) hx hb d_M_number_II_1 (by rw [c3]; decide) (by rw [c3]; decide) (by rw [c3]; rfl) (by decide) ?_
        refine lv_aload_n hx hb d_M_number_II_50 rfl (lv_at hl 0 rfl) ?_
        refine va_get (D := (dC, dI)) (ci := 3) (v := .ref (ad 3)) (C := R_M) (T := F_M) (N := 21) hx hb hts (fun w h => gm (i_M w h)) hown hK G.1 0 rfl rfl 2 (by decide) (hts _ (gm tw_423)) (fun _ h9 => h9) rfl d_M_number_II_51 ?_
        refine lv_iload_n hx hb d_M_number_II_54 rfl (lv_at hl 1 rfl) ?_
        refine va_lald hx hb hK G.1 3 0 rfl rfl hk_x1 d_M_number_II_55 ?_
        exact hg_lret hx hb hr hlocks hK hAe G (by have e9 : f_M_number_II S x1 x2 = m_u S x1.toNatClampNeg := (by exact (Eq.trans (if_neg c1) (Eq.trans (if_neg c2) (if_pos c3)))); exact ⟨Eq.symm e9, rfl⟩) d_M_number_II_56
      · skip
        by_cases c4 : x2 = 3
        · refine lv_tableIn (off := 56) (tgt := 57) hx hb d_M_number_II_1 (by rw [c4]; decide) (by rw [c4]; decide) (by rw [c4]; rfl) (by decide) ?_
          refine lv_aload_n hx hb d_M_number_II_57 rfl (lv_at hl 0 rfl) ?_
          refine va_get (D := (dC, dI)) (ci := 3) (v := .ref (ad 4)) (C := R_M) (T := F_M) (N := 21) hx hb hts (fun w h => gm (i_M w h)) hown hK G.1 0 rfl rfl 3 (by decide) (hts _ (gm tw_424)) (fun _ h9 => h9) rfl d_M_number_II_58 ?_
          refine lv_iload_n hx hb d_M_number_II_61 rfl (lv_at hl 1 rfl) ?_
          refine va_lald hx hb hK G.1 4 0 rfl rfl hk_x1 d_M_number_II_62 ?_
          exact hg_lret hx hb hr hlocks hK hAe G (by have e9 : f_M_number_II S x1 x2 = m_v S x1.toNatClampNeg := (by exact (Eq.trans (if_neg c1) (Eq.trans (if_neg c2) (Eq.trans (if_neg c3) (if_pos c4))))); exact ⟨Eq.symm e9, rfl⟩) d_M_number_II_63
        · skip
          by_cases c5 : x2 = 4
          · refine lv_tableIn (off := 63) (tgt := 64) hx hb d_M_number_II_1 (by rw [c5]; decide) (by rw [c5]; decide) (by rw [c5]; rfl) (by decide) ?_
            refine lv_aload_n hx hb d_M_number_II_64 rfl (lv_at hl 0 rfl) ?_
            refine va_get (D := (dC, dI)) (ci := 3) (v := .ref (ad 5)) (C := R_M) (T := F_M) (N := 21) hx hb hts (fun w h => gm (i_M w h)) hown hK G.1 0 rfl rfl 4 (by decide) (hts _ (gm tw_425)) (fun _ h9 => h9) rfl d_M_number_II_65 ?_
            refine lv_iload_n hx hb d_M_number_II_68 rfl (lv_at hl 1 rfl) ?_
            refine va_lald hx hb hK G.1 5 0 rfl rfl hk_x1 d_M_number_II_69 ?_
            refine pu_l (As := [.long (m_m S x1.toNatClampNeg)]) (rest := []) ⟨hx, hb, hml, hown, hts⟩ (c_M_toDouble_J l _ t0 t1 t2 (m_m S x1.toNatClampNeg)) (pr_pre (hx_R hRT G)) (gw_call (k := 1) hts tw_570 tw_571 tw_4 tw_572 (by decide +kernel) rfl rfl ⟨Nat.le_of_ble_eq_true rfl, Nat.le_of_ble_eq_true rfl⟩) rfl hl.1 rfl (Nat.le_of_ble_eq_true rfl) ⟨Nat.zero_le _, Nat.zero_le _⟩ d_M_number_II_70 ?_
            exact hg_lret hx hb hr hlocks hK hAe G (by have e9 : f_M_number_II S x1 x2 = f_M_toDouble_J (m_m S x1.toNatClampNeg) := (by exact (Eq.trans (if_neg c1) (Eq.trans (if_neg c2) (Eq.trans (if_neg c3) (Eq.trans (if_neg c4) (if_pos c5)))))); exact ⟨Eq.symm e9, rfl⟩) d_M_number_II_73
          · skip
            refine lv_tableOut (tgt := 74) hx hb d_M_number_II_1 (sw_out (fun j h1 h2 e => by rcases (show j = 0 ∨ j = 1 ∨ j = 2 ∨ j = 3 ∨ j = 4 by omega) with rfl | rfl | rfl | rfl | rfl <;> first | exact c1 (Int32.toInt_inj.mp (e.trans (by decide))) | exact c2 (Int32.toInt_inj.mp (e.trans (by decide))) | exact c3 (Int32.toInt_inj.mp (e.trans (by decide))) | exact c4 (Int32.toInt_inj.mp (e.trans (by decide))) | exact c5 (Int32.toInt_inj.mp (e.trans (by decide))))) (by decide) ?_
            refine lv_aload_n hx hb d_M_number_II_74 rfl (lv_at hl 0 rfl) ?_
            refine va_get (D := (dC, dI)) (ci := 3) (v := .ref (ad 6)) (C := R_M) (T := F_M) (N := 21) hx hb hts (fun w h => gm (i_M w h)) hown hK G.1 0 rfl rfl 5 (by decide) (hts _ (gm tw_426)) (fun _ h9 => h9) rfl d_M_number_II_75 ?_
            refine lv_iload_n hx hb d_M_number_II_78 rfl (lv_at hl 1 rfl) ?_
            refine va_lald hx hb hK G.1 6 0 rfl rfl hk_x1 d_M_number_II_79 ?_
            refine pu_l (As := [.long (m_r S x1.toNatClampNeg)]) (rest := []) ⟨hx, hb, hml, hown, hts⟩ (c_M_toDouble_J l _ t0 t1 t2 (m_r S x1.toNatClampNeg)) (pr_pre (hx_R hRT G)) (gw_call (k := 1) hts tw_570 tw_571 tw_4 tw_572 (by decide +kernel) rfl rfl ⟨Nat.le_of_ble_eq_true rfl, Nat.le_of_ble_eq_true rfl⟩) rfl hl.1 rfl (Nat.le_of_ble_eq_true rfl) ⟨Nat.zero_le _, Nat.zero_le _⟩ d_M_number_II_80 ?_
            exact hg_lret hx hb hr hlocks hK hAe G (by have e9 : f_M_number_II S x1 x2 = f_M_toDouble_J (m_r S x1.toNatClampNeg) := (by exact (Eq.trans (if_neg c1) (Eq.trans (if_neg c2) (Eq.trans (if_neg c3) (Eq.trans (if_neg c4) (if_neg c5)))))); exact ⟨Eq.symm e9, rfl⟩) d_M_number_II_83
-- ===== MotionLabModel.tell(II)J 
abbrev y_M_tell_II : MethodName := ⟨"MotionLabModel", "tell", "(II)J"⟩
abbrev b_M_tell_II : ByteArray := prog_6_method_46_code
theorem d_M_tell_II_0 : decode b_M_tell_II 0 = .ok (.iload_n 1, 1) := by decide +kernel
theorem d_M_tell_II_1 : decode b_M_tell_II 1 = .ok (.bipush 8, 2) := by decide +kernel
theorem d_M_tell_II_3 : decode b_M_tell_II 3 = .ok (.invokestatic 190, 3) := by decide +kernel
theorem d_M_tell_II_6 : decode b_M_tell_II 6 = .ok (.ifCond .eq 24, 3) := by decide +kernel
theorem d_M_tell_II_9 : decode b_M_tell_II 9 = .ok (.iload_n 2, 1) := by decide +kernel
theorem d_M_tell_II_10 : decode b_M_tell_II 10 = .ok (.bipush 6, 2) := by decide +kernel
theorem d_M_tell_II_12 : decode b_M_tell_II 12 = .ok (.invokestatic 190, 3) := by decide +kernel
theorem d_M_tell_II_15 : decode b_M_tell_II 15 = .ok (.ifCond .eq 15, 3) := by decide +kernel
theorem d_M_tell_II_18 : decode b_M_tell_II 18 = .ok (.aload_n 0, 1) := by decide +kernel
theorem d_M_tell_II_19 : decode b_M_tell_II 19 = .ok (.iload_n 1, 1) := by decide +kernel
theorem d_M_tell_II_20 : decode b_M_tell_II 20 = .ok (.iload_n 2, 1) := by decide +kernel
theorem d_M_tell_II_21 : decode b_M_tell_II 21 = .ok (.invokevirtual 247, 3) := by decide +kernel
theorem d_M_tell_II_24 : decode b_M_tell_II 24 = .ok (.invokestatic 251, 3) := by decide +kernel
theorem d_M_tell_II_27 : decode b_M_tell_II 27 = .ok (.goto 4, 3) := by decide +kernel
theorem d_M_tell_II_30 : decode b_M_tell_II 30 = .ok (.lconst 1, 1) := by decide +kernel
theorem d_M_tell_II_31 : decode b_M_tell_II 31 = .ok (.lreturn, 1) := by decide +kernel
def f_M_tell_II (S : MS) (x1 : Int32) (x2 : Int32) : Int64 :=
  if (f_M_in_II x1 (8 : Int32)) = 0 then
    (1 : Int64)
  else
    if (f_M_in_II x2 (6 : Int32)) = 0 then
      (1 : Int64)
    else
      f_M_told_J (f_M_number_II S x1 x2)
set_option maxHeartbeats 2000000 in
set_option maxRecDepth 100000 in
theorem c_M_tell_II (l : Launch) (dC : Nat → ClassId) (dI : Nat → Nat → Nat) (ad : Nat → Nat) (cJ cI : ClassId) (t0 t1 t2 : Nat) (S : MS) (x1 : Int32) (x2 : Int32) (sz : Nat) : hMl l y_M_tell_II (gw y_M_tell_II b_M_tell_II 3 (some .long)) { frames := 7, cells := 0, slots := 0, locals := 167 } [.ref (ad 0), .int x1, .int x2] (dC, dI) classes (tysJI cJ cI) (hE_M t0 t1 t2 (mW ad cJ cI S) sz) (mW ad cJ cI S) sz (f_M_tell_II S x1 x2) (mW ad cJ cI S) := by
  refine Met.ofW (cc := b_M_tell_II) (maxL := 3) (ret := (some .long)) (by decide) rfl ?_
  intro p e s m args below meth c s₁ B hml hv
  obtain ⟨rfl, hsz, hP, hK, hD0, hRT⟩ := hv
  have hx := B.exec
  have hb := B.bytes
  have hr := B.returns
  have hts := atoms_spec (ws := (gw y_M_tell_II b_M_tell_II 3 (some .long))) B.pre
  have hown : s.vm.findClass "MotionLabModel" = some m.cls := findClass_of_methodNamed B.named
  have hlocks := B.notSynchronized
  subst hsz
  have hD := hD0.self (sz := s.heap.size)
  have hRT : RTA t0 t1 t2 (va_A (mW ad cJ cI S) s.heap.size) s s.heap := hRT
  generalize hAe : va_A (mW ad cJ cI S) s.heap.size = A at hD hRT
  have hA : ∀ q : Nat, s.heap.size ≤ q → A q := fun q h => by rw [← hAe]; exact Or.inr h
  have G : hG (dC, dI) classes A s.heap (mW ad cJ cI S) s.heap [] := ⟨hP, hD, va_S.rf⟩
  have hl := lv_entry ([.ref (ad 0), .int x1, .int x2]) (n := 3) (Nat.le_of_ble_eq_true rfl)
  rw [lg_entry_eq]
  generalize (lg_sl ([.ref (ad 0), .int x1, .int x2]) ++ List.replicate (3 - (lg_sl ([.ref (ad 0), .int x1, .int x2])).length) Slot.unset).toArray = ls at hl ⊢
  have hl : lv_has ls 3 [(0, .ref (ad 0)), (1, .int x1), (2, .int x2)] := hl
  refine lv_iload_n hx hb d_M_tell_II_0 rfl (lv_at hl 1 rfl) ?_
  refine lv_bipush (v := (8 : Int32)) hx hb d_M_tell_II_1 (by decide) ?_
  refine pu_i (As := [.int x1, .int (8 : Int32)]) (rest := []) ⟨hx, hb, hml, hown, hts⟩ (c_M_in_II l _ x1 (8 : Int32)) pu_pre (gw_call (k := 2) hts tw_489 tw_490 tw_4 tw_491 (by decide +kernel) rfl rfl ⟨Nat.le_of_ble_eq_true rfl, Nat.le_of_ble_eq_true rfl⟩) rfl hl.1 rfl (Nat.le_of_ble_eq_true rfl) ⟨Nat.zero_le _, Nat.zero_le _⟩ d_M_tell_II_3 ?_
  refine lv_if_eq (tgt := 30) hx hb d_M_tell_II_6 (by decide) (fun c1 => ?_) (fun c1 => ?_)
  · refine lv_lconst (v := (1 : Int64)) hx hb d_M_tell_II_30 (by decide) ?_
    exact hg_lret hx hb hr hlocks hK hAe G (by have e9 : f_M_tell_II S x1 x2 = (1 : Int64) := (by exact (if_pos c1)); exact ⟨Eq.symm e9, rfl⟩) d_M_tell_II_31
  · refine lv_iload_n hx hb d_M_tell_II_9 rfl (lv_at hl 2 rfl) ?_
    refine lv_bipush (v := (6 : Int32)) hx hb d_M_tell_II_10 (by decide) ?_
    refine pu_i (As := [.int x2, .int (6 : Int32)]) (rest := []) ⟨hx, hb, hml, hown, hts⟩ (c_M_in_II l _ x2 (6 : Int32)) pu_pre (gw_call (k := 2) hts tw_489 tw_490 tw_4 tw_491 (by decide +kernel) rfl rfl ⟨Nat.le_of_ble_eq_true rfl, Nat.le_of_ble_eq_true rfl⟩) rfl hl.1 rfl (Nat.le_of_ble_eq_true rfl) ⟨Nat.zero_le _, Nat.zero_le _⟩ d_M_tell_II_12 ?_
    refine lv_if_eq (tgt := 30) hx hb d_M_tell_II_15 (by decide) (fun c2 => ?_) (fun c2 => ?_)
    · refine lv_lconst (v := (1 : Int64)) hx hb d_M_tell_II_30 (by decide) ?_
      exact hg_lret hx hb hr hlocks hK hAe G (by have e9 : f_M_tell_II S x1 x2 = (1 : Int64) := (by exact (Eq.trans (if_neg c1) (if_pos c2))); exact ⟨Eq.symm e9, rfl⟩) d_M_tell_II_31
    · refine lv_aload_n hx hb d_M_tell_II_18 rfl (lv_at hl 0 rfl) ?_
      refine lv_iload_n hx hb d_M_tell_II_19 rfl (lv_at hl 1 rfl) ?_
      refine lv_iload_n hx hb d_M_tell_II_20 rfl (lv_at hl 2 rfl) ?_
      refine hg_cl (As := [.int x1, .int x2]) (rest := []) ⟨hx, hb, hml, hown, hts⟩ (c_M_number_II l dC dI ad cJ cI t0 t1 t2 S x1 x2 (in_in c1 (by decide) (by decide)) _) (gw_callV (k := 2) hts tw_643 tw_645 tp_14 tw_4 tw_646 (by decide +kernel) rfl rfl ⟨Nat.le_of_ble_eq_true rfl, Nat.le_of_ble_eq_true rfl⟩) hK G hA (hx_M hRT G hA) 3 0 rfl rfl rfl hl.1 rfl (Nat.le_of_ble_eq_true rfl) ⟨Nat.zero_le _, Nat.zero_le _⟩ d_M_tell_II_21 (fun H locs G => ?_)
      refine pu_l (As := [.long (f_M_number_II S x1 x2)]) (rest := []) ⟨hx, hb, hml, hown, hts⟩ (c_M_told_J l _ (f_M_number_II S x1 x2)) pu_pre (gw_call (k := 1) hts tw_647 tw_648 tw_4 tw_649 (by decide +kernel) rfl rfl ⟨Nat.le_of_ble_eq_true rfl, Nat.le_of_ble_eq_true rfl⟩) rfl hl.1 rfl (Nat.le_of_ble_eq_true rfl) ⟨Nat.zero_le _, Nat.zero_le _⟩ d_M_tell_II_24 ?_
      refine lv_goto (tgt := 31) hx hb d_M_tell_II_27 (by decide) ?_
      exact hg_lret hx hb hr hlocks hK hAe G (by have e9 : f_M_tell_II S x1 x2 = f_M_told_J (f_M_number_II S x1 x2) := (by exact (Eq.trans (if_neg c1) (if_neg c2))); exact ⟨Eq.symm e9, rfl⟩) d_M_tell_II_31
-- ===== MotionLabModel.about(I)J 
abbrev y_M_about_I : MethodName := ⟨"MotionLabModel", "about", "(I)J"⟩
abbrev b_M_about_I : ByteArray := prog_6_method_47_code
theorem d_M_about_I_0 : decode b_M_about_I 0 = .ok (.iload_n 1, 1) := by decide +kernel
theorem d_M_about_I_1 : decode b_M_about_I 1 = .ok (.tableswitch 93 0 5 #[39, 47, 55, 63, 74, 82], 39) := by decide +kernel
theorem d_M_about_I_40 : decode b_M_about_I 40 = .ok (.aload_n 0, 1) := by decide +kernel
theorem d_M_about_I_41 : decode b_M_about_I 41 = .ok (.getfield 198, 3) := by decide +kernel
theorem d_M_about_I_44 : decode b_M_about_I 44 = .ok (.invokestatic 251, 3) := by decide +kernel
theorem d_M_about_I_47 : decode b_M_about_I 47 = .ok (.lreturn, 1) := by decide +kernel
theorem d_M_about_I_48 : decode b_M_about_I 48 = .ok (.aload_n 0, 1) := by decide +kernel
theorem d_M_about_I_49 : decode b_M_about_I 49 = .ok (.getfield 201, 3) := by decide +kernel
theorem d_M_about_I_52 : decode b_M_about_I 52 = .ok (.invokestatic 251, 3) := by decide +kernel
theorem d_M_about_I_55 : decode b_M_about_I 55 = .ok (.lreturn, 1) := by decide +kernel
theorem d_M_about_I_56 : decode b_M_about_I 56 = .ok (.aload_n 0, 1) := by decide +kernel
theorem d_M_about_I_57 : decode b_M_about_I 57 = .ok (.getfield 204, 3) := by decide +kernel
theorem d_M_about_I_60 : decode b_M_about_I 60 = .ok (.invokestatic 251, 3) := by decide +kernel
theorem d_M_about_I_63 : decode b_M_about_I 63 = .ok (.lreturn, 1) := by decide +kernel
theorem d_M_about_I_64 : decode b_M_about_I 64 = .ok (.aload_n 0, 1) := by decide +kernel
theorem d_M_about_I_65 : decode b_M_about_I 65 = .ok (.getfield 160, 3) := by decide +kernel
theorem d_M_about_I_68 : decode b_M_about_I 68 = .ok (.invokestatic 229, 3) := by decide +kernel
theorem d_M_about_I_71 : decode b_M_about_I 71 = .ok (.invokestatic 251, 3) := by decide +kernel
theorem d_M_about_I_74 : decode b_M_about_I 74 = .ok (.lreturn, 1) := by decide +kernel
theorem d_M_about_I_75 : decode b_M_about_I 75 = .ok (.aload_n 0, 1) := by decide +kernel
theorem d_M_about_I_76 : decode b_M_about_I 76 = .ok (.getfield 164, 3) := by decide +kernel
theorem d_M_about_I_79 : decode b_M_about_I 79 = .ok (.invokestatic 251, 3) := by decide +kernel
theorem d_M_about_I_82 : decode b_M_about_I 82 = .ok (.lreturn, 1) := by decide +kernel
theorem d_M_about_I_83 : decode b_M_about_I 83 = .ok (.aload_n 0, 1) := by decide +kernel
theorem d_M_about_I_84 : decode b_M_about_I 84 = .ok (.getfield 169, 3) := by decide +kernel
theorem d_M_about_I_87 : decode b_M_about_I 87 = .ok (.invokestatic 229, 3) := by decide +kernel
theorem d_M_about_I_90 : decode b_M_about_I 90 = .ok (.invokestatic 251, 3) := by decide +kernel
theorem d_M_about_I_93 : decode b_M_about_I 93 = .ok (.lreturn, 1) := by decide +kernel
theorem d_M_about_I_94 : decode b_M_about_I 94 = .ok (.lconst 1, 1) := by decide +kernel
theorem d_M_about_I_95 : decode b_M_about_I 95 = .ok (.lreturn, 1) := by decide +kernel
def f_M_about_I (S : MS) (x1 : Int32) : Int64 :=
  if x1 = 0 then
    f_M_told_J (m_gx S)
  else
    if x1 = 1 then
      f_M_told_J (m_gy S)
    else
      if x1 = 2 then
        f_M_told_J (m_drag S)
      else
        if x1 = 3 then
          f_M_told_J (f_M_toDouble_J (m_dt S))
        else
          if x1 = 4 then
            f_M_told_J (m_wall S)
          else
            if x1 = 5 then
              f_M_told_J (f_M_toDouble_J (m_back S))
            else
              (1 : Int64)
set_option maxHeartbeats 2000000 in
set_option maxRecDepth 100000 in
theorem c_M_about_I (l : Launch) (dC : Nat → ClassId) (dI : Nat → Nat → Nat) (ad : Nat → Nat) (cJ cI : ClassId) (t0 t1 t2 : Nat) (S : MS) (x1 : Int32) (sz : Nat) : hMl l y_M_about_I (gw y_M_about_I b_M_about_I 2 (some .long)) { frames := 6, cells := 0, slots := 0, locals := 145 } [.ref (ad 0), .int x1] (dC, dI) classes (tysJI cJ cI) (hE_M t0 t1 t2 (mW ad cJ cI S) sz) (mW ad cJ cI S) sz (f_M_about_I S x1) (mW ad cJ cI S) := by
  refine Met.ofW (cc := b_M_about_I) (maxL := 2) (ret := (some .long)) (by decide) rfl ?_
  intro p e s m args below meth c s₁ B hml hv
  obtain ⟨rfl, hsz, hP, hK, hD0, hRT⟩ := hv
  have hx := B.exec
  have hb := B.bytes
  have hr := B.returns
  have hts := atoms_spec (ws := (gw y_M_about_I b_M_about_I 2 (some .long))) B.pre
  have hown : s.vm.findClass "MotionLabModel" = some m.cls := findClass_of_methodNamed B.named
  have hlocks := B.notSynchronized
  subst hsz
  have hD := hD0.self (sz := s.heap.size)
  have hRT : RTA t0 t1 t2 (va_A (mW ad cJ cI S) s.heap.size) s s.heap := hRT
  generalize hAe : va_A (mW ad cJ cI S) s.heap.size = A at hD hRT
  have hA : ∀ q : Nat, s.heap.size ≤ q → A q := fun q h => by rw [← hAe]; exact Or.inr h
  have G : hG (dC, dI) classes A s.heap (mW ad cJ cI S) s.heap [] := ⟨hP, hD, va_S.rf⟩
  have hl := lv_entry ([.ref (ad 0), .int x1]) (n := 2) (Nat.le_of_ble_eq_true rfl)
  rw [lg_entry_eq]
  generalize (lg_sl ([.ref (ad 0), .int x1]) ++ List.replicate (2 - (lg_sl ([.ref (ad 0), .int x1])).length) Slot.unset).toArray = ls at hl ⊢
  have hl : lv_has ls 2 [(0, .ref (ad 0)), (1, .int x1)] := hl
  refine lv_iload_n hx hb d_M_about_I_0 rfl (lv_at hl 1 rfl) ?_
  by_cases c1 : x1 = 0
  · refine lv_tableIn (off := 39) (tgt := 40) hx hb d_M_about_I_1 (by rw [c1]; decide) (by rw [c1]; decide) (by rw [c1]; rfl) (by decide) ?_
    refine lv_aload_n hx hb d_M_about_I_40 rfl (lv_at hl 0 rfl) ?_
    refine va_get (D := (dC, dI)) (ci := 3) (v := .long (m_gx S)) (C := R_M) (T := F_M) (N := 21) hx hb hts (fun w h => gm (i_M w h)) hown hK G.1 0 rfl rfl 8 (by decide) (hts _ (gm tw_429)) (fun _ h9 => h9) rfl d_M_about_I_41 ?_
    refine pu_l (As := [.long (m_gx S)]) (rest := []) ⟨hx, hb, hml, hown, hts⟩ (c_M_told_J l _ (m_gx S)) pu_pre (gw_call (k := 1) hts tw_647 tw_648 tw_4 tw_649 (by decide +kernel) rfl rfl ⟨Nat.le_of_ble_eq_true rfl, Nat.le_of_ble_eq_true rfl⟩) rfl hl.1 rfl (Nat.le_of_ble_eq_true rfl) ⟨Nat.zero_le _, Nat.zero_le _⟩ d_M_about_I_44 ?_
    exact hg_lret hx hb hr hlocks hK hAe G (by have e9 : f_M_about_I S x1 = f_M_told_J (m_gx S) := (by exact (if_pos c1)); exact ⟨Eq.symm e9, rfl⟩) d_M_about_I_47
  · skip
    by_cases c2 : x1 = 1
    · refine lv_tableIn (off := 47) (tgt := 48) hx hb d_M_about_I_1 (by rw [c2]; decide) (by rw [c2]; decide) (by rw [c2]; rfl) (by decide) ?_
      refine lv_aload_n hx hb d_M_about_I_48 rfl (lv_at hl 0 rfl) ?_
      refine va_get (D := (dC, dI)) (ci := 3) (v := .long (m_gy S)) (C := R_M) (T := F_M) (N := 21) hx hb hts (fun w h => gm (i_M w h)) hown hK G.1 0 rfl rfl 9 (by decide) (hts _ (gm tw_430)) (fun _ h9 => h9) rfl d_M_about_I_49 ?_
      refine pu_l (As := [.long (m_gy S)]) (rest := []) ⟨hx, hb, hml, hown, hts⟩ (c_M_told_J l _ (m_gy S)) pu_pre (gw_call (k := 1) hts tw_647 tw_648 tw_4 tw_649 (by decide +kernel) rfl rfl ⟨Nat.le_of_ble_eq_true rfl, Nat.le_of_ble_eq_true rfl⟩) rfl hl.1 rfl (Nat.le_of_ble_eq_true rfl) ⟨Nat.zero_le _, Nat.zero_le _⟩ d_M_about_I_52 ?_
      exact hg_lret hx hb hr hlocks hK hAe G (by have e9 : f_M_about_I S x1 = f_M_told_J (m_gy S) := (by exact (Eq.trans (if_neg c1) (if_pos c2))); exact ⟨Eq.symm e9, rfl⟩) d_M_about_I_55
    · skip
      by_cases c3 : x1 = 2
      · refine lv_tableIn (off := 55) (tgt := 56) hx hb d_M_about_I_1 (by rw [c3]; decide) (by rw [c3]; decide) (by rw [c3]; rfl) (by decide) ?_
        refine lv_aload_n hx hb d_M_about_I_56 rfl (lv_at hl 0 rfl) ?_
        refine va_get (D := (dC, dI)) (ci := 3) (v := .long (m_drag S)) (C := R_M) (T := F_M) (N := 21) hx hb hts (fun w h => gm (i_M w h)) hown hK G.1 0 rfl rfl 10 (by decide) (hts _ (gm tw_431)) (fun _ h9 => h9) rfl d_M_about_I_57 ?_
        refine pu_l (As := [.long (m_drag S)]) (rest := []) ⟨hx, hb, hml, hown, hts⟩ (c_M_told_J l _ (m_drag S)) pu_pre (gw_call (k := 1) hts tw_647 tw_648 tw_4 tw_649 (by decide +kernel) rfl rfl ⟨Nat.le_of_ble_eq_true rfl, Nat.le_of_ble_eq_true rfl⟩) rfl hl.1 rfl (Nat.le_of_ble_eq_true rfl) ⟨Nat.zero_le _, Nat.zero_le _⟩ d_M_about_I_60 ?_
        exact hg_lret hx hb hr hlocks hK hAe G (by have e9 : f_M_about_I S x1 = f_M_told_J (m_drag S) := (by exact (Eq.trans (if_neg c1) (Eq.trans (if_neg c2) (if_pos c3)))); exact ⟨Eq.symm e9, rfl⟩) d_M_about_I_63
      · skip
        by_cases c4 : x1 = 3
        · refine lv_tableIn (off := 63) (tgt := 64) hx hb d_M_about_I_1 (by rw [c4]; decide) (by rw [c4]; decide) (by rw [c4]; rfl) (by decide) ?_
          refine lv_aload_n hx hb d_M_about_I_64 rfl (lv_at hl 0 rfl) ?_
          refine va_get (D := (dC, dI)) (ci := 3) (v := .long (m_dt S)) (C := R_M) (T := F_M) (N := 21) hx hb hts (fun w h => gm (i_M w h)) hown hK G.1 0 rfl rfl 11 (by decide) (hts _ (gm tw_432)) (fun _ h9 => h9) rfl d_M_about_I_65 ?_
          refine pu_l (As := [.long (m_dt S)]) (rest := []) ⟨hx, hb, hml, hown, hts⟩ (c_M_toDouble_J l _ t0 t1 t2 (m_dt S)) (pr_pre (hx_R hRT G)) (gw_call (k := 1) hts tw_570 tw_571 tw_4 tw_572 (by decide +kernel) rfl rfl ⟨Nat.le_of_ble_eq_true rfl, Nat.le_of_ble_eq_true rfl⟩) rfl hl.1 rfl (Nat.le_of_ble_eq_true rfl) ⟨Nat.zero_le _, Nat.zero_le _⟩ d_M_about_I_68 ?_
          refine pu_l (As := [.long (f_M_toDouble_J (m_dt S))]) (rest := []) ⟨hx, hb, hml, hown, hts⟩ (c_M_told_J l _ (f_M_toDouble_J (m_dt S))) pu_pre (gw_call (k := 1) hts tw_647 tw_648 tw_4 tw_649 (by decide +kernel) rfl rfl ⟨Nat.le_of_ble_eq_true rfl, Nat.le_of_ble_eq_true rfl⟩) rfl hl.1 rfl (Nat.le_of_ble_eq_true rfl) ⟨Nat.zero_le _, Nat.zero_le _⟩ d_M_about_I_71 ?_
          exact hg_lret hx hb hr hlocks hK hAe G (by have e9 : f_M_about_I S x1 = f_M_told_J (f_M_toDouble_J (m_dt S)) := (by exact (Eq.trans (if_neg c1) (Eq.trans (if_neg c2) (Eq.trans (if_neg c3) (if_pos c4))))); exact ⟨Eq.symm e9, rfl⟩) d_M_about_I_74
        · skip
          by_cases c5 : x1 = 4
          · refine lv_tableIn (off := 74) (tgt := 75) hx hb d_M_about_I_1 (by rw [c5]; decide) (by rw [c5]; decide) (by rw [c5]; rfl) (by decide) ?_
            refine lv_aload_n hx hb d_M_about_I_75 rfl (lv_at hl 0 rfl) ?_
            refine va_get (D := (dC, dI)) (ci := 3) (v := .long (m_wall S)) (C := R_M) (T := F_M) (N := 21) hx hb hts (fun w h => gm (i_M w h)) hown hK G.1 0 rfl rfl 12 (by decide) (hts _ (gm tw_433)) (fun _ h9 => h9) rfl d_M_about_I_76 ?_
            refine pu_l (As := [.long (m_wall S)]) (rest := []) ⟨hx, hb, hml, hown, hts⟩ (c_M_told_J l _ (m_wall S)) pu_pre (gw_call (k := 1) hts tw_647 tw_648 tw_4 tw_649 (by decide +kernel) rfl rfl ⟨Nat.le_of_ble_eq_true rfl, Nat.le_of_ble_eq_true rfl⟩) rfl hl.1 rfl (Nat.le_of_ble_eq_true rfl) ⟨Nat.zero_le _, Nat.zero_le _⟩ d_M_about_I_79 ?_
            exact hg_lret hx hb hr hlocks hK hAe G (by have e9 : f_M_about_I S x1 = f_M_told_J (m_wall S) := (by exact (Eq.trans (if_neg c1) (Eq.trans (if_neg c2) (Eq.trans (if_neg c3) (Eq.trans (if_neg c4) (if_pos c5)))))); exact ⟨Eq.symm e9, rfl⟩) d_M_about_I_82
          · skip
            by_cases c6 : x1 = 5
            · refine lv_tableIn (off := 82) (tgt := 83) hx hb d_M_about_I_1 (by rw [c6]; decide) (by rw [c6]; decide) (by rw [c6]; rfl) (by decide) ?_
              refine lv_aload_n hx hb d_M_about_I_83 rfl (lv_at hl 0 rfl) ?_
              refine va_get (D := (dC, dI)) (ci := 3) (v := .long (m_back S)) (C := R_M) (T := F_M) (N := 21) hx hb hts (fun w h => gm (i_M w h)) hown hK G.1 0 rfl rfl 13 (by decide) (hts _ (gm tw_434)) (fun _ h9 => h9) rfl d_M_about_I_84 ?_
              refine pu_l (As := [.long (m_back S)]) (rest := []) ⟨hx, hb, hml, hown, hts⟩ (c_M_toDouble_J l _ t0 t1 t2 (m_back S)) (pr_pre (hx_R hRT G)) (gw_call (k := 1) hts tw_570 tw_571 tw_4 tw_572 (by decide +kernel) rfl rfl ⟨Nat.le_of_ble_eq_true rfl, Nat.le_of_ble_eq_true rfl⟩) rfl hl.1 rfl (Nat.le_of_ble_eq_true rfl) ⟨Nat.zero_le _, Nat.zero_le _⟩ d_M_about_I_87 ?_
              refine pu_l (As := [.long (f_M_toDouble_J (m_back S))]) (rest := []) ⟨hx, hb, hml, hown, hts⟩ (c_M_told_J l _ (f_M_toDouble_J (m_back S))) pu_pre (gw_call (k := 1) hts tw_647 tw_648 tw_4 tw_649 (by decide +kernel) rfl rfl ⟨Nat.le_of_ble_eq_true rfl, Nat.le_of_ble_eq_true rfl⟩) rfl hl.1 rfl (Nat.le_of_ble_eq_true rfl) ⟨Nat.zero_le _, Nat.zero_le _⟩ d_M_about_I_90 ?_
              exact hg_lret hx hb hr hlocks hK hAe G (by have e9 : f_M_about_I S x1 = f_M_told_J (f_M_toDouble_J (m_back S)) := (by exact (Eq.trans (if_neg c1) (Eq.trans (if_neg c2) (Eq.trans (if_neg c3) (Eq.trans (if_neg c4) (Eq.trans (if_neg c5) (if_pos c6))))))); exact ⟨Eq.symm e9, rfl⟩) d_M_about_I_93
            · skip
              refine lv_tableOut (tgt := 94) hx hb d_M_about_I_1 (sw_out (fun j h1 h2 e => by rcases (show j = 0 ∨ j = 1 ∨ j = 2 ∨ j = 3 ∨ j = 4 ∨ j = 5 by omega) with rfl | rfl | rfl | rfl | rfl | rfl <;> first | exact c1 (Int32.toInt_inj.mp (e.trans (by decide))) | exact c2 (Int32.toInt_inj.mp (e.trans (by decide))) | exact c3 (Int32.toInt_inj.mp (e.trans (by decide))) | exact c4 (Int32.toInt_inj.mp (e.trans (by decide))) | exact c5 (Int32.toInt_inj.mp (e.trans (by decide))) | exact c6 (Int32.toInt_inj.mp (e.trans (by decide))))) (by decide) ?_
              refine lv_lconst (v := (1 : Int64)) hx hb d_M_about_I_94 (by decide) ?_
              exact hg_lret hx hb hr hlocks hK hAe G (by have e9 : f_M_about_I S x1 = (1 : Int64) := (by exact (Eq.trans (if_neg c1) (Eq.trans (if_neg c2) (Eq.trans (if_neg c3) (Eq.trans (if_neg c4) (Eq.trans (if_neg c5) (if_neg c6))))))); exact ⟨Eq.symm e9, rfl⟩) d_M_about_I_95
-- ===== MotionLabModel.keep(IJ)I 
abbrev y_M_keep_IJ : MethodName := ⟨"MotionLabModel", "keep", "(IJ)I"⟩
abbrev b_M_keep_IJ : ByteArray := prog_6_method_48_code
theorem d_M_keep_IJ_0 : decode b_M_keep_IJ 0 = .ok (.iload_n 1, 1) := by decide +kernel
theorem d_M_keep_IJ_1 : decode b_M_keep_IJ 1 = .ok (.bipush 8, 2) := by decide +kernel
theorem d_M_keep_IJ_3 : decode b_M_keep_IJ 3 = .ok (.invokestatic 190, 3) := by decide +kernel
theorem d_M_keep_IJ_6 : decode b_M_keep_IJ 6 = .ok (.ifCond .ne 5, 3) := by decide +kernel
theorem d_M_keep_IJ_9 : decode b_M_keep_IJ 9 = .ok (.iconst (-1), 1) := by decide +kernel
theorem d_M_keep_IJ_10 : decode b_M_keep_IJ 10 = .ok (.ireturn, 1) := by decide +kernel
theorem d_M_keep_IJ_11 : decode b_M_keep_IJ 11 = .ok (.aload_n 0, 1) := by decide +kernel
theorem d_M_keep_IJ_12 : decode b_M_keep_IJ 12 = .ok (.getfield 187, 3) := by decide +kernel
theorem d_M_keep_IJ_15 : decode b_M_keep_IJ 15 = .ok (.iload_n 1, 1) := by decide +kernel
theorem d_M_keep_IJ_16 : decode b_M_keep_IJ 16 = .ok (.lload_n 2, 1) := by decide +kernel
theorem d_M_keep_IJ_17 : decode b_M_keep_IJ 17 = .ok (.lastore, 1) := by decide +kernel
theorem d_M_keep_IJ_18 : decode b_M_keep_IJ 18 = .ok (.iconst 0, 1) := by decide +kernel
theorem d_M_keep_IJ_19 : decode b_M_keep_IJ 19 = .ok (.ireturn, 1) := by decide +kernel
def f_M_keep_IJ (S : MS) (x1 : Int32) (x2 : Int64) : Int32 × MS :=
  if (f_M_in_II x1 (8 : Int32)) = 0 then
    ((-1 : Int32), S)
  else
    let S2 : MS := u_m_store S (vp_updL (m_store S) x1.toNatClampNeg x2)
    ((0 : Int32), S2)
set_option maxHeartbeats 2000000 in
set_option maxRecDepth 100000 in
theorem c_M_keep_IJ (l : Launch) (dC : Nat → ClassId) (dI : Nat → Nat → Nat) (ad : Nat → Nat) (cJ cI : ClassId) (t0 t1 t2 : Nat) (S : MS) (x1 : Int32) (x2 : Int64) (sz : Nat) : hMi l y_M_keep_IJ (gw y_M_keep_IJ b_M_keep_IJ 4 (some .int)) { frames := 1, cells := 0, slots := 0, locals := 21 } [.ref (ad 0), .int x1, .long x2] (dC, dI) classes (tysJI cJ cI) (hE_M t0 t1 t2 (mW ad cJ cI S) sz) (mW ad cJ cI S) sz (f_M_keep_IJ S x1 x2).1 (mW ad cJ cI (f_M_keep_IJ S x1 x2).2) := by
  refine Met.ofW (cc := b_M_keep_IJ) (maxL := 4) (ret := (some .int)) (by decide) rfl ?_
  intro p e s m args below meth c s₁ B hml hv
  obtain ⟨rfl, hsz, hP, hK, hD0, hRT⟩ := hv
  have hx := B.exec
  have hb := B.bytes
  have hr := B.returns
  have hts := atoms_spec (ws := (gw y_M_keep_IJ b_M_keep_IJ 4 (some .int))) B.pre
  have hown : s.vm.findClass "MotionLabModel" = some m.cls := findClass_of_methodNamed B.named
  have hlocks := B.notSynchronized
  subst hsz
  have hD := hD0.self (sz := s.heap.size)
  have hRT : RTA t0 t1 t2 (va_A (mW ad cJ cI S) s.heap.size) s s.heap := hRT
  generalize hAe : va_A (mW ad cJ cI S) s.heap.size = A at hD hRT
  have hA : ∀ q : Nat, s.heap.size ≤ q → A q := fun q h => by rw [← hAe]; exact Or.inr h
  have G : hG (dC, dI) classes A s.heap (mW ad cJ cI S) s.heap [] := ⟨hP, hD, va_S.rf⟩
  have hl := lv_entry ([.ref (ad 0), .int x1, .long x2]) (n := 4) (Nat.le_of_ble_eq_true rfl)
  rw [lg_entry_eq]
  generalize (lg_sl ([.ref (ad 0), .int x1, .long x2]) ++ List.replicate (4 - (lg_sl ([.ref (ad 0), .int x1, .long x2])).length) Slot.unset).toArray = ls at hl ⊢
  have hl : lv_has ls 4 [(0, .ref (ad 0)), (1, .int x1), (2, .long x2)] := hl
  refine lv_iload_n hx hb d_M_keep_IJ_0 rfl (lv_at hl 1 rfl) ?_
  refine lv_bipush (v := (8 : Int32)) hx hb d_M_keep_IJ_1 (by decide) ?_
  refine pu_i (As := [.int x1, .int (8 : Int32)]) (rest := []) ⟨hx, hb, hml, hown, hts⟩ (c_M_in_II l _ x1 (8 : Int32)) pu_pre (gw_call (k := 2) hts tw_489 tw_490 tw_4 tw_491 (by decide +kernel) rfl rfl ⟨Nat.le_of_ble_eq_true rfl, Nat.le_of_ble_eq_true rfl⟩) rfl hl.1 rfl (Nat.le_of_ble_eq_true rfl) ⟨Nat.zero_le _, Nat.zero_le _⟩ d_M_keep_IJ_3 ?_
  refine lv_if_ne (tgt := 11) hx hb d_M_keep_IJ_6 (by decide) (fun c1 => ?_) (fun c1 => ?_)
  · refine lv_aload_n hx hb d_M_keep_IJ_11 rfl (lv_at hl 0 rfl) ?_
    refine va_get (D := (dC, dI)) (ci := 3) (v := .ref (ad 14)) (C := R_M) (T := F_M) (N := 21) hx hb hts (fun w h => gm (i_M w h)) hown hK G.1 0 rfl rfl 20 (by decide) (hts _ (gm tw_441)) (fun _ h9 => h9) rfl d_M_keep_IJ_12 ?_
    refine lv_iload_n hx hb d_M_keep_IJ_15 rfl (lv_at hl 1 rfl) ?_
    refine lv_lload_n hx hb d_M_keep_IJ_16 rfl (lv_at hl 2 rfl) ?_
    obtain ⟨S2, e2⟩ : ∃ z : MS, z = u_m_store S (vp_updL (m_store S) x1.toNatClampNeg x2) := ⟨_, rfl⟩
    refine hg_last hx hb hK G 14 0 rfl rfl (in_in c1 (by decide) (by decide)) d_M_keep_IJ_17 (mW ad cJ cI S2) (by rw [e2]; rfl) (fun H locs G => ?_)
    refine lv_iconst (v := 0) hx hb d_M_keep_IJ_18 (by decide) ?_
    exact hg_iret hx hb hr hlocks hK hAe G (by have qe2 := e2.symm; subst qe2; unfold f_M_keep_IJ; rw [if_neg c1]; exact ⟨rfl, rfl⟩) d_M_keep_IJ_19
  · refine lv_iconst (v := (-1)) hx hb d_M_keep_IJ_9 (by decide) ?_
    exact hg_iret hx hb hr hlocks hK hAe G (by unfold f_M_keep_IJ; rw [if_pos c1]; exact ⟨rfl, rfl⟩) d_M_keep_IJ_10
-- ===== MotionLabModel.reckon(IIII)J 
abbrev y_M_reckon_IIII : MethodName := ⟨"MotionLabModel", "reckon", "(IIII)J"⟩
abbrev b_M_reckon_IIII : ByteArray := prog_6_method_51_code
theorem d_M_reckon_IIII_0 : decode b_M_reckon_IIII 0 = .ok (.iload_n 1, 1) := by decide +kernel
theorem d_M_reckon_IIII_1 : decode b_M_reckon_IIII 1 = .ok (.bipush 15, 2) := by decide +kernel
theorem d_M_reckon_IIII_3 : decode b_M_reckon_IIII 3 = .ok (.invokestatic 190, 3) := by decide +kernel
theorem d_M_reckon_IIII_6 : decode b_M_reckon_IIII 6 = .ok (.ifCond .eq 31, 3) := by decide +kernel
theorem d_M_reckon_IIII_9 : decode b_M_reckon_IIII 9 = .ok (.iload_n 2, 1) := by decide +kernel
theorem d_M_reckon_IIII_10 : decode b_M_reckon_IIII 10 = .ok (.bipush 8, 2) := by decide +kernel
theorem d_M_reckon_IIII_12 : decode b_M_reckon_IIII 12 = .ok (.invokestatic 190, 3) := by decide +kernel
theorem d_M_reckon_IIII_15 : decode b_M_reckon_IIII 15 = .ok (.ifCond .eq 22, 3) := by decide +kernel
theorem d_M_reckon_IIII_18 : decode b_M_reckon_IIII 18 = .ok (.iload_n 3, 1) := by decide +kernel
theorem d_M_reckon_IIII_19 : decode b_M_reckon_IIII 19 = .ok (.bipush 8, 2) := by decide +kernel
theorem d_M_reckon_IIII_21 : decode b_M_reckon_IIII 21 = .ok (.invokestatic 190, 3) := by decide +kernel
theorem d_M_reckon_IIII_24 : decode b_M_reckon_IIII 24 = .ok (.ifCond .eq 13, 3) := by decide +kernel
theorem d_M_reckon_IIII_27 : decode b_M_reckon_IIII 27 = .ok (.iload 4, 2) := by decide +kernel
theorem d_M_reckon_IIII_29 : decode b_M_reckon_IIII 29 = .ok (.bipush 8, 2) := by decide +kernel
theorem d_M_reckon_IIII_31 : decode b_M_reckon_IIII 31 = .ok (.invokestatic 190, 3) := by decide +kernel
theorem d_M_reckon_IIII_34 : decode b_M_reckon_IIII 34 = .ok (.ifCond .ne 5, 3) := by decide +kernel
theorem d_M_reckon_IIII_37 : decode b_M_reckon_IIII 37 = .ok (.lconst 1, 1) := by decide +kernel
theorem d_M_reckon_IIII_38 : decode b_M_reckon_IIII 38 = .ok (.lreturn, 1) := by decide +kernel
theorem d_M_reckon_IIII_39 : decode b_M_reckon_IIII 39 = .ok (.aload_n 0, 1) := by decide +kernel
theorem d_M_reckon_IIII_40 : decode b_M_reckon_IIII 40 = .ok (.getfield 187, 3) := by decide +kernel
theorem d_M_reckon_IIII_43 : decode b_M_reckon_IIII 43 = .ok (.iload_n 2, 1) := by decide +kernel
theorem d_M_reckon_IIII_44 : decode b_M_reckon_IIII 44 = .ok (.iload_n 1, 1) := by decide +kernel
theorem d_M_reckon_IIII_45 : decode b_M_reckon_IIII 45 = .ok (.aload_n 0, 1) := by decide +kernel
theorem d_M_reckon_IIII_46 : decode b_M_reckon_IIII 46 = .ok (.getfield 187, 3) := by decide +kernel
theorem d_M_reckon_IIII_49 : decode b_M_reckon_IIII 49 = .ok (.iload_n 3, 1) := by decide +kernel
theorem d_M_reckon_IIII_50 : decode b_M_reckon_IIII 50 = .ok (.laload, 1) := by decide +kernel
theorem d_M_reckon_IIII_51 : decode b_M_reckon_IIII 51 = .ok (.aload_n 0, 1) := by decide +kernel
theorem d_M_reckon_IIII_52 : decode b_M_reckon_IIII 52 = .ok (.getfield 187, 3) := by decide +kernel
theorem d_M_reckon_IIII_55 : decode b_M_reckon_IIII 55 = .ok (.iload 4, 2) := by decide +kernel
theorem d_M_reckon_IIII_57 : decode b_M_reckon_IIII 57 = .ok (.laload, 1) := by decide +kernel
theorem d_M_reckon_IIII_58 : decode b_M_reckon_IIII 58 = .ok (.invokestatic 261, 3) := by decide +kernel
theorem d_M_reckon_IIII_61 : decode b_M_reckon_IIII 61 = .ok (.lastore, 1) := by decide +kernel
theorem d_M_reckon_IIII_62 : decode b_M_reckon_IIII 62 = .ok (.aload_n 0, 1) := by decide +kernel
theorem d_M_reckon_IIII_63 : decode b_M_reckon_IIII 63 = .ok (.getfield 187, 3) := by decide +kernel
theorem d_M_reckon_IIII_66 : decode b_M_reckon_IIII 66 = .ok (.iload_n 2, 1) := by decide +kernel
theorem d_M_reckon_IIII_67 : decode b_M_reckon_IIII 67 = .ok (.laload, 1) := by decide +kernel
theorem d_M_reckon_IIII_68 : decode b_M_reckon_IIII 68 = .ok (.invokestatic 251, 3) := by decide +kernel
theorem d_M_reckon_IIII_71 : decode b_M_reckon_IIII 71 = .ok (.lreturn, 1) := by decide +kernel
def f_M_reckon_IIII (S : MS) (x1 : Int32) (x2 : Int32) (x3 : Int32) (x4 : Int32) : Int64 × MS :=
  if (f_M_in_II x1 (15 : Int32)) = 0 then
    ((1 : Int64), S)
  else
    if (f_M_in_II x2 (8 : Int32)) = 0 then
      ((1 : Int64), S)
    else
      if (f_M_in_II x3 (8 : Int32)) = 0 then
        ((1 : Int64), S)
      else
        if (f_M_in_II x4 (8 : Int32)) = 0 then
          ((1 : Int64), S)
        else
          let S5 : MS := u_m_store S (vp_updL (m_store S) x2.toNatClampNeg (f_M_reckoned_IJJ x1 (m_store S x3.toNatClampNeg) (m_store S x4.toNatClampNeg)))
          (f_M_told_J (m_store S5 x2.toNatClampNeg), S5)
set_option maxHeartbeats 2000000 in
set_option maxRecDepth 100000 in
theorem c_M_reckon_IIII (l : Launch) (dC : Nat → ClassId) (dI : Nat → Nat → Nat) (ad : Nat → Nat) (cJ cI : ClassId) (t0 t1 t2 : Nat) (S : MS) (x1 : Int32) (x2 : Int32) (x3 : Int32) (x4 : Int32) (sz : Nat) : hMl l y_M_reckon_IIII (gw y_M_reckon_IIII b_M_reckon_IIII 5 (some .long)) { frames := 7, cells := 0, slots := 0, locals := 193 } [.ref (ad 0), .int x1, .int x2, .int x3, .int x4] (dC, dI) classes (tysJI cJ cI) (hE_M t0 t1 t2 (mW ad cJ cI S) sz) (mW ad cJ cI S) sz (f_M_reckon_IIII S x1 x2 x3 x4).1 (mW ad cJ cI (f_M_reckon_IIII S x1 x2 x3 x4).2) := by
  refine Met.ofW (cc := b_M_reckon_IIII) (maxL := 5) (ret := (some .long)) (by decide) rfl ?_
  intro p e s m args below meth c s₁ B hml hv
  obtain ⟨rfl, hsz, hP, hK, hD0, hRT⟩ := hv
  have hx := B.exec
  have hb := B.bytes
  have hr := B.returns
  have hts := atoms_spec (ws := (gw y_M_reckon_IIII b_M_reckon_IIII 5 (some .long))) B.pre
  have hown : s.vm.findClass "MotionLabModel" = some m.cls := findClass_of_methodNamed B.named
  have hlocks := B.notSynchronized
  subst hsz
  have hD := hD0.self (sz := s.heap.size)
  have hRT : RTA t0 t1 t2 (va_A (mW ad cJ cI S) s.heap.size) s s.heap := hRT
  generalize hAe : va_A (mW ad cJ cI S) s.heap.size = A at hD hRT
  have hA : ∀ q : Nat, s.heap.size ≤ q → A q := fun q h => by rw [← hAe]; exact Or.inr h
  have G : hG (dC, dI) classes A s.heap (mW ad cJ cI S) s.heap [] := ⟨hP, hD, va_S.rf⟩
  have hl := lv_entry ([.ref (ad 0), .int x1, .int x2, .int x3, .int x4]) (n := 5) (Nat.le_of_ble_eq_true rfl)
  rw [lg_entry_eq]
  generalize (lg_sl ([.ref (ad 0), .int x1, .int x2, .int x3, .int x4]) ++ List.replicate (5 - (lg_sl ([.ref (ad 0), .int x1, .int x2, .int x3, .int x4])).length) Slot.unset).toArray = ls at hl ⊢
  have hl : lv_has ls 5 [(0, .ref (ad 0)), (1, .int x1), (2, .int x2), (3, .int x3), (4, .int x4)] := hl
  refine lv_iload_n hx hb d_M_reckon_IIII_0 rfl (lv_at hl 1 rfl) ?_
  refine lv_bipush (v := (15 : Int32)) hx hb d_M_reckon_IIII_1 (by decide) ?_
  refine pu_i (As := [.int x1, .int (15 : Int32)]) (rest := []) ⟨hx, hb, hml, hown, hts⟩ (c_M_in_II l _ x1 (15 : Int32)) pu_pre (gw_call (k := 2) hts tw_489 tw_490 tw_4 tw_491 (by decide +kernel) rfl rfl ⟨Nat.le_of_ble_eq_true rfl, Nat.le_of_ble_eq_true rfl⟩) rfl hl.1 rfl (Nat.le_of_ble_eq_true rfl) ⟨Nat.zero_le _, Nat.zero_le _⟩ d_M_reckon_IIII_3 ?_
  refine lv_if_eq (tgt := 37) hx hb d_M_reckon_IIII_6 (by decide) (fun c1 => ?_) (fun c1 => ?_)
  · refine lv_lconst (v := (1 : Int64)) hx hb d_M_reckon_IIII_37 (by decide) ?_
    exact hg_lret hx hb hr hlocks hK hAe G (by unfold f_M_reckon_IIII; rw [if_pos c1]; exact ⟨rfl, rfl⟩) d_M_reckon_IIII_38
  · refine lv_iload_n hx hb d_M_reckon_IIII_9 rfl (lv_at hl 2 rfl) ?_
    refine lv_bipush (v := (8 : Int32)) hx hb d_M_reckon_IIII_10 (by decide) ?_
    refine pu_i (As := [.int x2, .int (8 : Int32)]) (rest := []) ⟨hx, hb, hml, hown, hts⟩ (c_M_in_II l _ x2 (8 : Int32)) pu_pre (gw_call (k := 2) hts tw_489 tw_490 tw_4 tw_491 (by decide +kernel) rfl rfl ⟨Nat.le_of_ble_eq_true rfl, Nat.le_of_ble_eq_true rfl⟩) rfl hl.1 rfl (Nat.le_of_ble_eq_true rfl) ⟨Nat.zero_le _, Nat.zero_le _⟩ d_M_reckon_IIII_12 ?_
    refine lv_if_eq (tgt := 37) hx hb d_M_reckon_IIII_15 (by decide) (fun c2 => ?_) (fun c2 => ?_)
    · refine lv_lconst (v := (1 : Int64)) hx hb d_M_reckon_IIII_37 (by decide) ?_
      exact hg_lret hx hb hr hlocks hK hAe G (by unfold f_M_reckon_IIII; rw [if_neg c1, if_pos c2]; exact ⟨rfl, rfl⟩) d_M_reckon_IIII_38
    · refine lv_iload_n hx hb d_M_reckon_IIII_18 rfl (lv_at hl 3 rfl) ?_
      refine lv_bipush (v := (8 : Int32)) hx hb d_M_reckon_IIII_19 (by decide) ?_
      refine pu_i (As := [.int x3, .int (8 : Int32)]) (rest := []) ⟨hx, hb, hml, hown, hts⟩ (c_M_in_II l _ x3 (8 : Int32)) pu_pre (gw_call (k := 2) hts tw_489 tw_490 tw_4 tw_491 (by decide +kernel) rfl rfl ⟨Nat.le_of_ble_eq_true rfl, Nat.le_of_ble_eq_true rfl⟩) rfl hl.1 rfl (Nat.le_of_ble_eq_true rfl) ⟨Nat.zero_le _, Nat.zero_le _⟩ d_M_reckon_IIII_21 ?_
      refine lv_if_eq (tgt := 37) hx hb d_M_reckon_IIII_24 (by decide) (fun c3 => ?_) (fun c3 => ?_)
      · refine lv_lconst (v := (1 : Int64)) hx hb d_M_reckon_IIII_37 (by decide) ?_
        exact hg_lret hx hb hr hlocks hK hAe G (by unfold f_M_reckon_IIII; rw [if_neg c1, if_neg c2, if_pos c3]; exact ⟨rfl, rfl⟩) d_M_reckon_IIII_38
      · refine lv_iload hx hb d_M_reckon_IIII_27 (lv_at hl 4 rfl) ?_
        refine lv_bipush (v := (8 : Int32)) hx hb d_M_reckon_IIII_29 (by decide) ?_
        refine pu_i (As := [.int x4, .int (8 : Int32)]) (rest := []) ⟨hx, hb, hml, hown, hts⟩ (c_M_in_II l _ x4 (8 : Int32)) pu_pre (gw_call (k := 2) hts tw_489 tw_490 tw_4 tw_491 (by decide +kernel) rfl rfl ⟨Nat.le_of_ble_eq_true rfl, Nat.le_of_ble_eq_true rfl⟩) rfl hl.1 rfl (Nat.le_of_ble_eq_true rfl) ⟨Nat.zero_le _, Nat.zero_le _⟩ d_M_reckon_IIII_31 ?_
        refine lv_if_ne (tgt := 39) hx hb d_M_reckon_IIII_34 (by decide) (fun c4 => ?_) (fun c4 => ?_)
        · refine lv_aload_n hx hb d_M_reckon_IIII_39 rfl (lv_at hl 0 rfl) ?_
          refine va_get (D := (dC, dI)) (ci := 3) (v := .ref (ad 14)) (C := R_M) (T := F_M) (N := 21) hx hb hts (fun w h => gm (i_M w h)) hown hK G.1 0 rfl rfl 20 (by decide) (hts _ (gm tw_441)) (fun _ h9 => h9) rfl d_M_reckon_IIII_40 ?_
          refine lv_iload_n hx hb d_M_reckon_IIII_43 rfl (lv_at hl 2 rfl) ?_
          refine lv_iload_n hx hb d_M_reckon_IIII_44 rfl (lv_at hl 1 rfl) ?_
          refine lv_aload_n hx hb d_M_reckon_IIII_45 rfl (lv_at hl 0 rfl) ?_
          refine va_get (D := (dC, dI)) (ci := 3) (v := .ref (ad 14)) (C := R_M) (T := F_M) (N := 21) hx hb hts (fun w h => gm (i_M w h)) hown hK G.1 0 rfl rfl 20 (by decide) (hts _ (gm tw_441)) (fun _ h9 => h9) rfl d_M_reckon_IIII_46 ?_
          refine lv_iload_n hx hb d_M_reckon_IIII_49 rfl (lv_at hl 3 rfl) ?_
          refine va_lald hx hb hK G.1 14 0 rfl rfl (in_in c3 (by decide) (by decide)) d_M_reckon_IIII_50 ?_
          refine lv_aload_n hx hb d_M_reckon_IIII_51 rfl (lv_at hl 0 rfl) ?_
          refine va_get (D := (dC, dI)) (ci := 3) (v := .ref (ad 14)) (C := R_M) (T := F_M) (N := 21) hx hb hts (fun w h => gm (i_M w h)) hown hK G.1 0 rfl rfl 20 (by decide) (hts _ (gm tw_441)) (fun _ h9 => h9) rfl d_M_reckon_IIII_52 ?_
          refine lv_iload hx hb d_M_reckon_IIII_55 (lv_at hl 4 rfl) ?_
          refine va_lald hx hb hK G.1 14 0 rfl rfl (in_in c4 (by decide) (by decide)) d_M_reckon_IIII_57 ?_
          refine pu_l (As := [.int x1, .long (m_store S x3.toNatClampNeg), .long (m_store S x4.toNatClampNeg)]) (rest := [.int x2, .ref (ad 14)]) ⟨hx, hb, hml, hown, hts⟩ (c_M_reckoned_IJJ l _ t0 t1 t2 x1 (m_store S x3.toNatClampNeg) (m_store S x4.toNatClampNeg)) (pr_pre (hx_R hRT G)) (gw_call (k := 3) hts tw_662 tw_663 tw_4 tw_664 (by decide +kernel) rfl rfl ⟨Nat.le_of_ble_eq_true rfl, Nat.le_of_ble_eq_true rfl⟩) rfl hl.1 rfl (Nat.le_of_ble_eq_true rfl) ⟨Nat.zero_le _, Nat.zero_le _⟩ d_M_reckon_IIII_58 ?_
          obtain ⟨S5, e5⟩ : ∃ z : MS, z = u_m_store S (vp_updL (m_store S) x2.toNatClampNeg (f_M_reckoned_IJJ x1 (m_store S x3.toNatClampNeg) (m_store S x4.toNatClampNeg))) := ⟨_, rfl⟩
          refine hg_last hx hb hK G 14 0 rfl rfl (in_in c2 (by decide) (by decide)) d_M_reckon_IIII_61 (mW ad cJ cI S5) (by rw [e5]; rfl) (fun H locs G => ?_)
          refine lv_aload_n hx hb d_M_reckon_IIII_62 rfl (lv_at hl 0 rfl) ?_
          refine va_get (D := (dC, dI)) (ci := 3) (v := .ref (ad 14)) (C := R_M) (T := F_M) (N := 21) hx hb hts (fun w h => gm (i_M w h)) hown hK G.1 0 rfl rfl 20 (by decide) (hts _ (gm tw_441)) (fun _ h9 => h9) rfl d_M_reckon_IIII_63 ?_
          refine lv_iload_n hx hb d_M_reckon_IIII_66 rfl (lv_at hl 2 rfl) ?_
          refine va_lald hx hb hK G.1 14 0 rfl rfl (in_in c2 (by decide) (by decide)) d_M_reckon_IIII_67 ?_
          refine pu_l (As := [.long (m_store S5 x2.toNatClampNeg)]) (rest := []) ⟨hx, hb, hml, hown, hts⟩ (c_M_told_J l _ (m_store S5 x2.toNatClampNeg)) pu_pre (gw_call (k := 1) hts tw_647 tw_648 tw_4 tw_649 (by decide +kernel) rfl rfl ⟨Nat.le_of_ble_eq_true rfl, Nat.le_of_ble_eq_true rfl⟩) rfl hl.1 rfl (Nat.le_of_ble_eq_true rfl) ⟨Nat.zero_le _, Nat.zero_le _⟩ d_M_reckon_IIII_68 ?_
          exact hg_lret hx hb hr hlocks hK hAe G (by have qe5 := e5.symm; subst qe5; unfold f_M_reckon_IIII; rw [if_neg c1, if_neg c2, if_neg c3, if_neg c4]; exact ⟨rfl, rfl⟩) d_M_reckon_IIII_71
        · refine lv_lconst (v := (1 : Int64)) hx hb d_M_reckon_IIII_37 (by decide) ?_
          exact hg_lret hx hb hr hlocks hK hAe G (by unfold f_M_reckon_IIII; rw [if_neg c1, if_neg c2, if_neg c3, if_pos c4]; exact ⟨rfl, rfl⟩) d_M_reckon_IIII_38
