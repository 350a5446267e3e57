-- ===== MotionLabModel.told(J)J
abbrev y_M_told_J : MethodName := ⟨"MotionLabModel", "told", "(J)J"⟩
abbrev b_M_told_J : ByteArray := prog_6_method_25_code
theorem d_M_told_J_0 : decode b_M_told_J 0 = .ok (.lload_n 0, 1) := by decide +kernel
theorem d_M_told_J_1 : decode b_M_told_J 1 = .ok (.iconst 0, 1) := by decide +kernel
theorem d_M_told_J_2 : decode b_M_told_J 2 = .ok (.invokestatic 56, 3) := by decide +kernel
theorem d_M_told_J_5 : decode b_M_told_J 5 = .ok (.ifCond .eq 9, 3) := by decide +kernel
theorem d_M_told_J_8 : decode b_M_told_J 8 = .ok (.ldc2_w 11, 3) := by decide +kernel
theorem d_M_told_J_11 : decode b_M_told_J 11 = .ok (.goto 4, 3) := by decide +kernel
theorem d_M_told_J_14 : decode b_M_told_J 14 = .ok (.lload_n 0, 1) := by decide +kernel
theorem d_M_told_J_15 : decode b_M_told_J 15 = .ok (.lreturn, 1) := by decide +kernel
def f_M_told_J (x0 : Int64) : Int64 :=
  if (f_M_isNone_JI x0 (0 : Int32)) = 0 then
    x0
  else
    (9221120237041090560 : Int64)
set_option maxHeartbeats 4000000 in
set_option maxRecDepth 100000 in
theorem c_M_told_J (l : Launch) (h : Heap) (x0 : Int64) : Met l y_M_told_J (gw y_M_told_J b_M_told_J 2 (some .long)) { frames := 3, cells := 0, slots := 0, locals := 64 } (pu_Pc [.long x0] h) (pu_Ml (f_M_told_J x0) h) 0 0 (fun _ => False) := by
  refine Met.ofW (cc := b_M_told_J) (maxL := 2) (ret := (some .long)) (by decide) rfl ?_
  intro p e s m args below meth c s₁ B hml hv
  obtain ⟨rfl, hh⟩ := hv
  subst hh
  have hx := B.exec
  have hb := B.bytes
  have hr := B.returns
  have hts := atoms_spec (ws := (gw y_M_told_J b_M_told_J 2 (some .long))) B.pre
  have hown : s.vm.findClass "MotionLabModel" = some m.cls := findClass_of_methodNamed B.named
  have hlocks := B.notSynchronized
  have C0 : pu_C p s m _ meth c b_M_told_J 2 "MotionLabModel" (some .long) (gw y_M_told_J b_M_told_J 2 (some .long)) := ⟨hx, hb, hml, hown, hts, hr, hlocks⟩
  have hl := lv_entry ([.long x0]) (n := 2) (Nat.le_of_ble_eq_true rfl)
  rw [lg_entry_eq]
  generalize (lg_sl ([.long x0]) ++ List.replicate (2 - (lg_sl ([.long x0])).length) Slot.unset).toArray = ls at hl ⊢
  have hl : lv_has ls 2 [(0, .long x0)] := hl
  refine lv_lload_n hx hb d_M_told_J_0 rfl (lv_at hl 0 rfl) ?_
  refine lv_iconst (v := 0) hx hb d_M_told_J_1 (by decide) ?_
  refine pu_i (As := [.long x0, .int (0 : Int32)]) (rest := []) ⟨hx, hb, hml, hown, hts⟩ (c_M_isNone_JI l _ x0 (0 : Int32)) pu_pre (gw_call (k := 2) hts tw_498 tw_499 tw_4 tw_500 (by decide +kernel) rfl rfl ⟨Nat.le_of_ble_eq_true rfl, Nat.le_of_ble_eq_true rfl⟩) rfl hl.1 rfl (Nat.le_of_ble_eq_true rfl) ⟨Nat.zero_le _, Nat.zero_le _⟩ d_M_told_J_2 ?_
  refine lv_if_eq (tgt := 14) hx hb d_M_told_J_5 (by decide) (fun c1 => ?_) (fun c1 => ?_)
  · refine lv_lload_n hx hb d_M_told_J_14 rfl (lv_at hl 0 rfl) ?_
    exact pu_lret hx hb hr hlocks d_M_told_J_15 (by exact Eq.symm (if_pos c1))
  · refine lv_ldc2 (v := (9221120237041090560 : Int64)) hx hb hown (hts _ (gm tw_514)) d_M_told_J_8 ?_
    refine lv_goto (tgt := 15) hx hb d_M_told_J_11 (by decide) ?_
    exact pu_lret hx hb hr hlocks d_M_told_J_15 (by exact Eq.symm (if_neg c1))
-- ===== MotionLabModel.rest(JJI)J
abbrev y_M_rest_JJI : MethodName := ⟨"MotionLabModel", "rest", "(JJI)J"⟩
abbrev b_M_rest_JJI : ByteArray := prog_6_method_20_code
theorem d_M_rest_JJI_0 : decode b_M_rest_JJI 0 = .ok (.lload_n 0, 1) := by decide +kernel
theorem d_M_rest_JJI_1 : decode b_M_rest_JJI 1 = .ok (.iload 4, 2) := by decide +kernel
theorem d_M_rest_JJI_3 : decode b_M_rest_JJI 3 = .ok (.invokestatic 56, 3) := by decide +kernel
theorem d_M_rest_JJI_6 : decode b_M_rest_JJI 6 = .ok (.ifCond .ne 30, 3) := by decide +kernel
theorem d_M_rest_JJI_9 : decode b_M_rest_JJI 9 = .ok (.lload_n 2, 1) := by decide +kernel
theorem d_M_rest_JJI_10 : decode b_M_rest_JJI 10 = .ok (.iload 4, 2) := by decide +kernel
theorem d_M_rest_JJI_12 : decode b_M_rest_JJI 12 = .ok (.invokestatic 56, 3) := by decide +kernel
theorem d_M_rest_JJI_15 : decode b_M_rest_JJI 15 = .ok (.ifCond .ne 21, 3) := by decide +kernel
theorem d_M_rest_JJI_18 : decode b_M_rest_JJI 18 = .ok (.lload_n 0, 1) := by decide +kernel
theorem d_M_rest_JJI_19 : decode b_M_rest_JJI 19 = .ok (.iload 4, 2) := by decide +kernel
theorem d_M_rest_JJI_21 : decode b_M_rest_JJI 21 = .ok (.invokestatic 63, 3) := by decide +kernel
theorem d_M_rest_JJI_24 : decode b_M_rest_JJI 24 = .ok (.ifCond .ne 12, 3) := by decide +kernel
theorem d_M_rest_JJI_27 : decode b_M_rest_JJI 27 = .ok (.lload_n 2, 1) := by decide +kernel
theorem d_M_rest_JJI_28 : decode b_M_rest_JJI 28 = .ok (.iload 4, 2) := by decide +kernel
theorem d_M_rest_JJI_30 : decode b_M_rest_JJI 30 = .ok (.invokestatic 66, 3) := by decide +kernel
theorem d_M_rest_JJI_33 : decode b_M_rest_JJI 33 = .ok (.ifCond .eq 9, 3) := by decide +kernel
theorem d_M_rest_JJI_36 : decode b_M_rest_JJI 36 = .ok (.iload 4, 2) := by decide +kernel
theorem d_M_rest_JJI_38 : decode b_M_rest_JJI 38 = .ok (.invokestatic 60, 3) := by decide +kernel
theorem d_M_rest_JJI_41 : decode b_M_rest_JJI 41 = .ok (.lreturn, 1) := by decide +kernel
theorem d_M_rest_JJI_42 : decode b_M_rest_JJI 42 = .ok (.lload_n 2, 1) := by decide +kernel
theorem d_M_rest_JJI_43 : decode b_M_rest_JJI 43 = .ok (.iload 4, 2) := by decide +kernel
theorem d_M_rest_JJI_45 : decode b_M_rest_JJI 45 = .ok (.invokestatic 63, 3) := by decide +kernel
theorem d_M_rest_JJI_48 : decode b_M_rest_JJI 48 = .ok (.ifCond .ne 19, 3) := by decide +kernel
theorem d_M_rest_JJI_51 : decode b_M_rest_JJI 51 = .ok (.lload_n 0, 1) := by decide +kernel
theorem d_M_rest_JJI_52 : decode b_M_rest_JJI 52 = .ok (.iload 4, 2) := by decide +kernel
theorem d_M_rest_JJI_54 : decode b_M_rest_JJI 54 = .ok (.invokestatic 15, 3) := by decide +kernel
theorem d_M_rest_JJI_57 : decode b_M_rest_JJI 57 = .ok (.lload_n 2, 1) := by decide +kernel
theorem d_M_rest_JJI_58 : decode b_M_rest_JJI 58 = .ok (.iload 4, 2) := by decide +kernel
theorem d_M_rest_JJI_60 : decode b_M_rest_JJI 60 = .ok (.invokestatic 15, 3) := by decide +kernel
theorem d_M_rest_JJI_63 : decode b_M_rest_JJI 63 = .ok (.lcmp, 1) := by decide +kernel
theorem d_M_rest_JJI_64 : decode b_M_rest_JJI 64 = .ok (.ifCond .ge 5, 3) := by decide +kernel
theorem d_M_rest_JJI_67 : decode b_M_rest_JJI 67 = .ok (.lload_n 0, 1) := by decide +kernel
theorem d_M_rest_JJI_68 : decode b_M_rest_JJI 68 = .ok (.lreturn, 1) := by decide +kernel
theorem d_M_rest_JJI_69 : decode b_M_rest_JJI 69 = .ok (.lload_n 0, 1) := by decide +kernel
theorem d_M_rest_JJI_70 : decode b_M_rest_JJI 70 = .ok (.iload 4, 2) := by decide +kernel
theorem d_M_rest_JJI_72 : decode b_M_rest_JJI 72 = .ok (.invokestatic 73, 3) := by decide +kernel
theorem d_M_rest_JJI_75 : decode b_M_rest_JJI 75 = .ok (.lstore 5, 2) := by decide +kernel
theorem d_M_rest_JJI_77 : decode b_M_rest_JJI 77 = .ok (.lload_n 2, 1) := by decide +kernel
theorem d_M_rest_JJI_78 : decode b_M_rest_JJI 78 = .ok (.iload 4, 2) := by decide +kernel
theorem d_M_rest_JJI_80 : decode b_M_rest_JJI 80 = .ok (.invokestatic 73, 3) := by decide +kernel
theorem d_M_rest_JJI_83 : decode b_M_rest_JJI 83 = .ok (.lstore 7, 2) := by decide +kernel
theorem d_M_rest_JJI_85 : decode b_M_rest_JJI 85 = .ok (.lload_n 0, 1) := by decide +kernel
theorem d_M_rest_JJI_86 : decode b_M_rest_JJI 86 = .ok (.iload 4, 2) := by decide +kernel
theorem d_M_rest_JJI_88 : decode b_M_rest_JJI 88 = .ok (.invokestatic 69, 3) := by decide +kernel
theorem d_M_rest_JJI_91 : decode b_M_rest_JJI 91 = .ok (.lload_n 2, 1) := by decide +kernel
theorem d_M_rest_JJI_92 : decode b_M_rest_JJI 92 = .ok (.iload 4, 2) := by decide +kernel
theorem d_M_rest_JJI_94 : decode b_M_rest_JJI 94 = .ok (.invokestatic 69, 3) := by decide +kernel
theorem d_M_rest_JJI_97 : decode b_M_rest_JJI 97 = .ok (.isub, 1) := by decide +kernel
theorem d_M_rest_JJI_98 : decode b_M_rest_JJI 98 = .ok (.istore 9, 2) := by decide +kernel
theorem d_M_rest_JJI_100 : decode b_M_rest_JJI 100 = .ok (.iload 9, 2) := by decide +kernel
theorem d_M_rest_JJI_102 : decode b_M_rest_JJI 102 = .ok (.ifCond .ge 30, 3) := by decide +kernel
theorem d_M_rest_JJI_105 : decode b_M_rest_JJI 105 = .ok (.lload_n 0, 1) := by decide +kernel
theorem d_M_rest_JJI_106 : decode b_M_rest_JJI 106 = .ok (.iload 4, 2) := by decide +kernel
theorem d_M_rest_JJI_108 : decode b_M_rest_JJI 108 = .ok (.invokestatic 76, 3) := by decide +kernel
theorem d_M_rest_JJI_111 : decode b_M_rest_JJI 111 = .ok (.lload 5, 2) := by decide +kernel
theorem d_M_rest_JJI_113 : decode b_M_rest_JJI 113 = .ok (.lload 7, 2) := by decide +kernel
theorem d_M_rest_JJI_115 : decode b_M_rest_JJI 115 = .ok (.iload 9, 2) := by decide +kernel
theorem d_M_rest_JJI_117 : decode b_M_rest_JJI 117 = .ok (.ineg, 1) := by decide +kernel
theorem d_M_rest_JJI_118 : decode b_M_rest_JJI 118 = .ok (.lshl, 1) := by decide +kernel
theorem d_M_rest_JJI_119 : decode b_M_rest_JJI 119 = .ok (.lrem, 1) := by decide +kernel
theorem d_M_rest_JJI_120 : decode b_M_rest_JJI 120 = .ok (.lload_n 0, 1) := by decide +kernel
theorem d_M_rest_JJI_121 : decode b_M_rest_JJI 121 = .ok (.iload 4, 2) := by decide +kernel
theorem d_M_rest_JJI_123 : decode b_M_rest_JJI 123 = .ok (.invokestatic 69, 3) := by decide +kernel
theorem d_M_rest_JJI_126 : decode b_M_rest_JJI 126 = .ok (.iload 4, 2) := by decide +kernel
theorem d_M_rest_JJI_128 : decode b_M_rest_JJI 128 = .ok (.invokestatic 89, 3) := by decide +kernel
theorem d_M_rest_JJI_131 : decode b_M_rest_JJI 131 = .ok (.lreturn, 1) := by decide +kernel
theorem d_M_rest_JJI_132 : decode b_M_rest_JJI 132 = .ok (.lload 5, 2) := by decide +kernel
theorem d_M_rest_JJI_134 : decode b_M_rest_JJI 134 = .ok (.lload 7, 2) := by decide +kernel
theorem d_M_rest_JJI_136 : decode b_M_rest_JJI 136 = .ok (.lrem, 1) := by decide +kernel
theorem d_M_rest_JJI_137 : decode b_M_rest_JJI 137 = .ok (.lstore 10, 2) := by decide +kernel
theorem d_M_rest_JJI_139 : decode b_M_rest_JJI 139 = .ok (.iconst 0, 1) := by decide +kernel
theorem d_M_rest_JJI_140 : decode b_M_rest_JJI 140 = .ok (.istore 12, 2) := by decide +kernel
theorem d_M_rest_JJI_142 : decode b_M_rest_JJI 142 = .ok (.iload 12, 2) := by decide +kernel
theorem d_M_rest_JJI_144 : decode b_M_rest_JJI 144 = .ok (.iload 9, 2) := by decide +kernel
theorem d_M_rest_JJI_146 : decode b_M_rest_JJI 146 = .ok (.if_icmp .ge 18, 3) := by decide +kernel
theorem d_M_rest_JJI_149 : decode b_M_rest_JJI 149 = .ok (.lload 10, 2) := by decide +kernel
theorem d_M_rest_JJI_151 : decode b_M_rest_JJI 151 = .ok (.iconst 1, 1) := by decide +kernel
theorem d_M_rest_JJI_152 : decode b_M_rest_JJI 152 = .ok (.lshl, 1) := by decide +kernel
theorem d_M_rest_JJI_153 : decode b_M_rest_JJI 153 = .ok (.lload 7, 2) := by decide +kernel
theorem d_M_rest_JJI_155 : decode b_M_rest_JJI 155 = .ok (.lrem, 1) := by decide +kernel
theorem d_M_rest_JJI_156 : decode b_M_rest_JJI 156 = .ok (.lstore 10, 2) := by decide +kernel
theorem d_M_rest_JJI_158 : decode b_M_rest_JJI 158 = .ok (.iinc 12 1, 3) := by decide +kernel
theorem d_M_rest_JJI_161 : decode b_M_rest_JJI 161 = .ok (.goto (-19), 3) := by decide +kernel
theorem d_M_rest_JJI_164 : decode b_M_rest_JJI 164 = .ok (.lload_n 0, 1) := by decide +kernel
theorem d_M_rest_JJI_165 : decode b_M_rest_JJI 165 = .ok (.iload 4, 2) := by decide +kernel
theorem d_M_rest_JJI_167 : decode b_M_rest_JJI 167 = .ok (.invokestatic 76, 3) := by decide +kernel
theorem d_M_rest_JJI_170 : decode b_M_rest_JJI 170 = .ok (.lload 10, 2) := by decide +kernel
theorem d_M_rest_JJI_172 : decode b_M_rest_JJI 172 = .ok (.lload_n 2, 1) := by decide +kernel
theorem d_M_rest_JJI_173 : decode b_M_rest_JJI 173 = .ok (.iload 4, 2) := by decide +kernel
theorem d_M_rest_JJI_175 : decode b_M_rest_JJI 175 = .ok (.invokestatic 69, 3) := by decide +kernel
theorem d_M_rest_JJI_178 : decode b_M_rest_JJI 178 = .ok (.iload 4, 2) := by decide +kernel
theorem d_M_rest_JJI_180 : decode b_M_rest_JJI 180 = .ok (.invokestatic 89, 3) := by decide +kernel
theorem d_M_rest_JJI_183 : decode b_M_rest_JJI 183 = .ok (.lreturn, 1) := by decide +kernel
def f_M_rest_JJI_142 : Nat → Int64 → Int64 → Int32 → Int64 → Int32 → Int64 → Int32 → Int64
  | 0, _, _, _, _, _, _, _ => 0
  | n + 1, x0, x2, x4, x7, x9, x10, x12 =>
    if x9 ≤ x12 then
      f_M_exact_ZJII (f_M_minus_JI x0 x4) x10 (f_M_power_JI x2 x4) x4
    else
      let v2 : Int64 := (j_shl x10 (1 : Int32)) - (j_shl x10 (1 : Int32)) / x7 * x7
      let v3 : Int32 := x12 + 1
      f_M_rest_JJI_142 n x0 x2 x4 x7 x9 v2 v3
set_option maxHeartbeats 4000000 in
set_option maxRecDepth 100000 in
theorem k_M_rest_JJI_142 {p : Program} {l : Launch} {e : Env} {s : State} {m : MethodId} {args : Array Value} {below : List Frame} {meth : Method} {c : Code} (C0 : pu_C p s m args meth c b_M_rest_JJI 13 "MotionLabModel" (some .long) (gw y_M_rest_JJI b_M_rest_JJI 13 (some .long))) {t0 t1 t2 : Nat} (hRT : RTH t0 t1 t2 s s.heap) (n : Nat) : ∀ (x0 : Int64) (x2 : Int64) (x4 : Int32) (x7 : Int64) (x9 : Int32) (x10 : Int64) (x12 : Int32) (hk_x4 : vp_in x4 2) (hz_x7 : ¬ x7 = 0) (hinv : ∃ j : Nat, x12 = nI j ∧ j ≤ x9.toNatClampNeg ∧ x9.toNatClampNeg - j < n) (ls : Array Slot) (hl : lv_has ls 13 [(0, .long x0), (2, .long x2), (4, .int x4), (7, .long x7), (9, .int x9), (10, .long x10), (12, .int x12)]) {w : Int64} (hw : w = f_M_rest_JJI_142 n x0 x2 x4 x7 x9 x10 x12), W p l e (headSpec (gw y_M_rest_JJI b_M_rest_JJI 13 (some .long)) ({ frames := 4, cells := 0, slots := 0, locals := 101 } : Room)).room s m args below meth c s.heap [] 0 0 (pu_Ql w below args s) (F0 m 142 ls []) := by
  obtain ⟨hx, hb, hml, hown, hts, hr, hlocks⟩ := id C0
  obtain ⟨hT0, hT1, hT2⟩ := id hRT
  induction n with
  | zero => intro x0 x2 x4 x7 x9 x10 x12 hk_x4 hz_x7 hinv ls hl w hw; exact (fl_zero hinv).elim
  | succ n ih =>
    intro x0 x2 x4 x7 x9 x10 x12 hk_x4 hz_x7 hinv ls hl w hw
    refine lv_iload hx hb d_M_rest_JJI_142 (lv_at hl 6 rfl) ?_
    refine lv_iload hx hb d_M_rest_JJI_144 (lv_at hl 4 rfl) ?_
    refine lv_icmp_ge (tgt := 164) hx hb d_M_rest_JJI_146 (by decide) (fun c1 => ?_) (fun c1 => ?_)
    · refine lv_lload_n hx hb d_M_rest_JJI_164 rfl (lv_at hl 0 rfl) ?_
      refine lv_iload hx hb d_M_rest_JJI_165 (lv_at hl 2 rfl) ?_
      refine pu_i (As := [.long x0, .int x4]) (rest := []) ⟨hx, hb, hml, hown, hts⟩ (c_M_minus_JI l _ x0 x4) pu_pre (gw_call (k := 2) hts tw_519 tw_520 tw_4 tw_521 (by decide +kernel) rfl rfl ⟨Nat.le_of_ble_eq_true rfl, Nat.le_of_ble_eq_true rfl⟩) rfl hl.1 rfl (Nat.le_of_ble_eq_true rfl) ⟨Nat.zero_le _, Nat.zero_le _⟩ d_M_rest_JJI_167 ?_
      refine lv_lload hx hb d_M_rest_JJI_170 (lv_at hl 5 rfl) ?_
      refine lv_lload_n hx hb d_M_rest_JJI_172 rfl (lv_at hl 1 rfl) ?_
      refine lv_iload hx hb d_M_rest_JJI_173 (lv_at hl 2 rfl) ?_
      refine pu_i (As := [.long x2, .int x4]) (rest := [.long x10, .int (f_M_minus_JI x0 x4)]) ⟨hx, hb, hml, hown, hts⟩ (c_M_power_JI l _ t0 t1 t2 x2 x4 hk_x4) (pr_pre hRT) (gw_call (k := 2) hts tw_530 tw_531 tw_4 tw_532 (by decide +kernel) rfl rfl ⟨Nat.le_of_ble_eq_true rfl, Nat.le_of_ble_eq_true rfl⟩) rfl hl.1 rfl (Nat.le_of_ble_eq_true rfl) ⟨Nat.zero_le _, Nat.zero_le _⟩ d_M_rest_JJI_175 ?_
      refine lv_iload hx hb d_M_rest_JJI_178 (lv_at hl 2 rfl) ?_
      refine pu_l (As := [.int (f_M_minus_JI x0 x4), .long x10, .int (f_M_power_JI x2 x4), .int x4]) (rest := []) ⟨hx, hb, hml, hown, hts⟩ (c_M_exact_ZJII l _ t0 t1 t2 (f_M_minus_JI x0 x4) x10 (f_M_power_JI x2 x4) x4 hk_x4) (pr_pre hRT) (gw_call (k := 4) hts tw_536 tw_537 tw_4 tw_538 (by decide +kernel) rfl rfl ⟨Nat.le_of_ble_eq_true rfl, Nat.le_of_ble_eq_true rfl⟩) rfl hl.1 rfl (Nat.le_of_ble_eq_true rfl) ⟨Nat.zero_le _, Nat.zero_le _⟩ d_M_rest_JJI_180 ?_
      exact pu_lret hx hb hr hlocks d_M_rest_JJI_183 (by exact Eq.symm (hw.trans (if_pos c1)))
    · refine lv_lload hx hb d_M_rest_JJI_149 (lv_at hl 5 rfl) ?_
      refine lv_iconst (v := 1) hx hb d_M_rest_JJI_151 (by decide) ?_
      refine lv_lshl (v := j_shl x10 (1 : Int32)) hx hb d_M_rest_JJI_152 rfl ?_
      refine lv_lload hx hb d_M_rest_JJI_153 (lv_at hl 3 rfl) ?_
      refine lv_lrem hx hb d_M_rest_JJI_155 hz_x7 ?_
      refine lv_topl (fun v2 e2 => ?_)
      refine lv_lstore (lv' := [(10, .long v2), (0, .long x0), (2, .long x2), (4, .int x4), (7, .long x7), (9, .int x9), (12, .int x12)]) hx hb d_M_rest_JJI_156 hl (by decide) rfl (fun ls hl => ?_)
      obtain ⟨v3, e3⟩ : ∃ y : Int32, y = x12 + 1 := ⟨_, rfl⟩
      refine lv_iinc (v := v3) (lv' := [(12, .int v3), (10, .long v2), (0, .long x0), (2, .long x2), (4, .int x4), (7, .long x7), (9, .int x9)]) hx hb d_M_rest_JJI_158 hl (k := 6) rfl (by rw [e3]; rfl) (by decide) rfl (fun ls hl => ?_)
      refine lv_goto (tgt := 142) hx hb d_M_rest_JJI_161 (by decide) ?_
      exact ih x0 x2 x4 x7 x9 v2 v3 hk_x4 hz_x7 (by rw [e3]; exact fl_up hinv c1) ls (lv_sub hl [2, 3, 4, 5, 6, 1, 0] rfl) (by have qe2 := e2.symm; have qe3 := e3.symm; subst qe2 qe3; exact (hw.trans (if_neg c1)))
def f_M_rest_JJI (x0 : Int64) (x2 : Int64) (x4 : Int32) : Int64 :=
  if (f_M_isNone_JI x0 x4) = 0 then
    if (f_M_isNone_JI x2 x4) = 0 then
      if (f_M_isInfinite_JI x0 x4) = 0 then
        if (f_M_isZero_JI x2 x4) = 0 then
          if (f_M_isInfinite_JI x2 x4) = 0 then
            if 0 ≤ (lg_cmp (f_M_size_JI x0 x4) (f_M_size_JI x2 x4)) then
              let v7 : Int64 := f_M_whole_JI x0 x4
              let v8 : Int64 := f_M_whole_JI x2 x4
              let v9 : Int32 := (f_M_power_JI x0 x4) - (f_M_power_JI x2 x4)
              if 0 ≤ v9 then
                let v11 : Int64 := v7 - v7 / v8 * v8
                f_M_rest_JJI_142 (v9.toNatClampNeg + 1) x0 x2 x4 v8 v9 v11 (0 : Int32)
              else
                f_M_exact_ZJII (f_M_minus_JI x0 x4) (v7 - v7 / (j_shl v8 (-v9)) * (j_shl v8 (-v9))) (f_M_power_JI x0 x4) x4
            else
              x0
          else
            x0
        else
          f_M_none_I x4
      else
        f_M_none_I x4
    else
      f_M_none_I x4
  else
    f_M_none_I x4
set_option maxHeartbeats 4000000 in
set_option maxRecDepth 100000 in
theorem c_M_rest_JJI (l : Launch) (h : Heap) (t0 t1 t2 : Nat) (x0 : Int64) (x2 : Int64) (x4 : Int32) (hk_x4 : vp_in x4 2) : Met l y_M_rest_JJI (gw y_M_rest_JJI b_M_rest_JJI 13 (some .long)) { frames := 4, cells := 0, slots := 0, locals := 101 } (pr_Pc [.long x0, .long x2, .int x4] h t0 t1 t2) (pu_Ml (f_M_rest_JJI x0 x2 x4) h) 0 0 (fun _ => False) := by
  refine Met.ofW (cc := b_M_rest_JJI) (maxL := 13) (ret := (some .long)) (by decide) rfl ?_
  intro p e s m args below meth c s₁ B hml hv
  obtain ⟨rfl, hh, hRT⟩ := hv
  subst hh
  obtain ⟨hT0, hT1, hT2⟩ := id hRT
  have hx := B.exec
  have hb := B.bytes
  have hr := B.returns
  have hts := atoms_spec (ws := (gw y_M_rest_JJI b_M_rest_JJI 13 (some .long))) B.pre
  have hown : s.vm.findClass "MotionLabModel" = some m.cls := findClass_of_methodNamed B.named
  have hlocks := B.notSynchronized
  have C0 : pu_C p s m _ meth c b_M_rest_JJI 13 "MotionLabModel" (some .long) (gw y_M_rest_JJI b_M_rest_JJI 13 (some .long)) := ⟨hx, hb, hml, hown, hts, hr, hlocks⟩
  have hl := lv_entry ([.long x0, .long x2, .int x4]) (n := 13) (Nat.le_of_ble_eq_true rfl)
  rw [lg_entry_eq]
  generalize (lg_sl ([.long x0, .long x2, .int x4]) ++ List.replicate (13 - (lg_sl ([.long x0, .long x2, .int x4])).length) Slot.unset).toArray = ls at hl ⊢
  have hl : lv_has ls 13 [(0, .long x0), (2, .long x2), (4, .int x4)] := hl
  refine lv_lload_n hx hb d_M_rest_JJI_0 rfl (lv_at hl 0 rfl) ?_
  refine lv_iload hx hb d_M_rest_JJI_1 (lv_at hl 2 rfl) ?_
  refine pu_i (As := [.long x0, .int x4]) (rest := []) ⟨hx, hb, hml, hown, hts⟩ (c_M_isNone_JI l _ x0 x4) pu_pre (gw_call (k := 2) hts tw_498 tw_499 tw_4 tw_500 (by decide +kernel) rfl rfl ⟨Nat.le_of_ble_eq_true rfl, Nat.le_of_ble_eq_true rfl⟩) rfl hl.1 rfl (Nat.le_of_ble_eq_true rfl) ⟨Nat.zero_le _, Nat.zero_le _⟩ d_M_rest_JJI_3 ?_
  refine lv_if_ne (tgt := 36) hx hb d_M_rest_JJI_6 (by decide) (fun c1 => ?_) (fun c1 => ?_)
  · refine lv_iload hx hb d_M_rest_JJI_36 (lv_at hl 2 rfl) ?_
    refine pu_l (As := [.int x4]) (rest := []) ⟨hx, hb, hml, hown, hts⟩ (c_M_none_I l _ x4) pu_pre (gw_call (k := 1) hts tw_511 tw_512 tw_4 tw_513 (by decide +kernel) rfl rfl ⟨Nat.le_of_ble_eq_true rfl, Nat.le_of_ble_eq_true rfl⟩) rfl hl.1 rfl (Nat.le_of_ble_eq_true rfl) ⟨Nat.zero_le _, Nat.zero_le _⟩ d_M_rest_JJI_38 ?_
    exact pu_lret hx hb hr hlocks d_M_rest_JJI_41 (by exact Eq.symm (if_neg c1))
  · refine lv_lload_n hx hb d_M_rest_JJI_9 rfl (lv_at hl 1 rfl) ?_
    refine lv_iload hx hb d_M_rest_JJI_10 (lv_at hl 2 rfl) ?_
    refine pu_i (As := [.long x2, .int x4]) (rest := []) ⟨hx, hb, hml, hown, hts⟩ (c_M_isNone_JI l _ x2 x4) pu_pre (gw_call (k := 2) hts tw_498 tw_499 tw_4 tw_500 (by decide +kernel) rfl rfl ⟨Nat.le_of_ble_eq_true rfl, Nat.le_of_ble_eq_true rfl⟩) rfl hl.1 rfl (Nat.le_of_ble_eq_true rfl) ⟨Nat.zero_le _, Nat.zero_le _⟩ d_M_rest_JJI_12 ?_
    refine lv_if_ne (tgt := 36) hx hb d_M_rest_JJI_15 (by decide) (fun c2 => ?_) (fun c2 => ?_)
    · refine lv_iload hx hb d_M_rest_JJI_36 (lv_at hl 2 rfl) ?_
      refine pu_l (As := [.int x4]) (rest := []) ⟨hx, hb, hml, hown, hts⟩ (c_M_none_I l _ x4) pu_pre (gw_call (k := 1) hts tw_511 tw_512 tw_4 tw_513 (by decide +kernel) rfl rfl ⟨Nat.le_of_ble_eq_true rfl, Nat.le_of_ble_eq_true rfl⟩) rfl hl.1 rfl (Nat.le_of_ble_eq_true rfl) ⟨Nat.zero_le _, Nat.zero_le _⟩ d_M_rest_JJI_38 ?_
      exact pu_lret hx hb hr hlocks d_M_rest_JJI_41 (by exact Eq.symm (Eq.trans (if_pos c1) (if_neg c2)))
    · refine lv_lload_n hx hb d_M_rest_JJI_18 rfl (lv_at hl 0 rfl) ?_
      refine lv_iload hx hb d_M_rest_JJI_19 (lv_at hl 2 rfl) ?_
      refine pu_i (As := [.long x0, .int x4]) (rest := []) ⟨hx, hb, hml, hown, hts⟩ (c_M_isInfinite_JI l _ x0 x4) pu_pre (gw_call (k := 2) hts tw_516 tw_517 tw_4 tw_518 (by decide +kernel) rfl rfl ⟨Nat.le_of_ble_eq_true rfl, Nat.le_of_ble_eq_true rfl⟩) rfl hl.1 rfl (Nat.le_of_ble_eq_true rfl) ⟨Nat.zero_le _, Nat.zero_le _⟩ d_M_rest_JJI_21 ?_
      refine lv_if_ne (tgt := 36) hx hb d_M_rest_JJI_24 (by decide) (fun c3 => ?_) (fun c3 => ?_)
      · refine lv_iload hx hb d_M_rest_JJI_36 (lv_at hl 2 rfl) ?_
        refine pu_l (As := [.int x4]) (rest := []) ⟨hx, hb, hml, hown, hts⟩ (c_M_none_I l _ x4) pu_pre (gw_call (k := 1) hts tw_511 tw_512 tw_4 tw_513 (by decide +kernel) rfl rfl ⟨Nat.le_of_ble_eq_true rfl, Nat.le_of_ble_eq_true rfl⟩) rfl hl.1 rfl (Nat.le_of_ble_eq_true rfl) ⟨Nat.zero_le _, Nat.zero_le _⟩ d_M_rest_JJI_38 ?_
        exact pu_lret hx hb hr hlocks d_M_rest_JJI_41 (by exact Eq.symm (Eq.trans (if_pos c1) (Eq.trans (if_pos c2) (if_neg c3))))
      · refine lv_lload_n hx hb d_M_rest_JJI_27 rfl (lv_at hl 1 rfl) ?_
        refine lv_iload hx hb d_M_rest_JJI_28 (lv_at hl 2 rfl) ?_
        refine pu_i (As := [.long x2, .int x4]) (rest := []) ⟨hx, hb, hml, hown, hts⟩ (c_M_isZero_JI l _ x2 x4) pu_pre (gw_call (k := 2) hts tw_579 tw_580 tw_4 tw_581 (by decide +kernel) rfl rfl ⟨Nat.le_of_ble_eq_true rfl, Nat.le_of_ble_eq_true rfl⟩) rfl hl.1 rfl (Nat.le_of_ble_eq_true rfl) ⟨Nat.zero_le _, Nat.zero_le _⟩ d_M_rest_JJI_30 ?_
        refine lv_if_eq (tgt := 42) hx hb d_M_rest_JJI_33 (by decide) (fun c4 => ?_) (fun c4 => ?_)
        · refine lv_lload_n hx hb d_M_rest_JJI_42 rfl (lv_at hl 1 rfl) ?_
          refine lv_iload hx hb d_M_rest_JJI_43 (lv_at hl 2 rfl) ?_
          refine pu_i (As := [.long x2, .int x4]) (rest := []) ⟨hx, hb, hml, hown, hts⟩ (c_M_isInfinite_JI l _ x2 x4) pu_pre (gw_call (k := 2) hts tw_516 tw_517 tw_4 tw_518 (by decide +kernel) rfl rfl ⟨Nat.le_of_ble_eq_true rfl, Nat.le_of_ble_eq_true rfl⟩) rfl hl.1 rfl (Nat.le_of_ble_eq_true rfl) ⟨Nat.zero_le _, Nat.zero_le _⟩ d_M_rest_JJI_45 ?_
          refine lv_if_ne (tgt := 67) hx hb d_M_rest_JJI_48 (by decide) (fun c5 => ?_) (fun c5 => ?_)
          · refine lv_lload_n hx hb d_M_rest_JJI_67 rfl (lv_at hl 0 rfl) ?_
            exact pu_lret hx hb hr hlocks d_M_rest_JJI_68 (by exact Eq.symm (Eq.trans (if_pos c1) (Eq.trans (if_pos c2) (Eq.trans (if_pos c3) (Eq.trans (if_pos c4) (if_neg c5))))))
          · refine lv_lload_n hx hb d_M_rest_JJI_51 rfl (lv_at hl 0 rfl) ?_
            refine lv_iload hx hb d_M_rest_JJI_52 (lv_at hl 2 rfl) ?_
            refine pu_l (As := [.long x0, .int x4]) (rest := []) ⟨hx, hb, hml, hown, hts⟩ (c_M_size_JI l _ x0 x4) pu_pre (gw_call (k := 2) hts tw_501 tw_502 tw_4 tw_503 (by decide +kernel) rfl rfl ⟨Nat.le_of_ble_eq_true rfl, Nat.le_of_ble_eq_true rfl⟩) rfl hl.1 rfl (Nat.le_of_ble_eq_true rfl) ⟨Nat.zero_le _, Nat.zero_le _⟩ d_M_rest_JJI_54 ?_
            refine lv_lload_n hx hb d_M_rest_JJI_57 rfl (lv_at hl 1 rfl) ?_
            refine lv_iload hx hb d_M_rest_JJI_58 (lv_at hl 2 rfl) ?_
            refine pu_l (As := [.long x2, .int x4]) (rest := [.long (f_M_size_JI x0 x4)]) ⟨hx, hb, hml, hown, hts⟩ (c_M_size_JI l _ x2 x4) pu_pre (gw_call (k := 2) hts tw_501 tw_502 tw_4 tw_503 (by decide +kernel) rfl rfl ⟨Nat.le_of_ble_eq_true rfl, Nat.le_of_ble_eq_true rfl⟩) rfl hl.1 rfl (Nat.le_of_ble_eq_true rfl) ⟨Nat.zero_le _, Nat.zero_le _⟩ d_M_rest_JJI_60 ?_
            refine W.lcmp hx hb d_M_rest_JJI_63 ?_
            refine lv_if_ge (tgt := 69) hx hb d_M_rest_JJI_64 (by decide) (fun c6 => ?_) (fun c6 => ?_)
            · refine lv_lload_n hx hb d_M_rest_JJI_69 rfl (lv_at hl 0 rfl) ?_
              refine lv_iload hx hb d_M_rest_JJI_70 (lv_at hl 2 rfl) ?_
              refine pu_l (As := [.long x0, .int x4]) (rest := []) ⟨hx, hb, hml, hown, hts⟩ (c_M_whole_JI l _ t0 t1 t2 x0 x4 hk_x4) (pr_pre hRT) (gw_call (k := 2) hts tw_525 tw_526 tw_4 tw_527 (by decide +kernel) rfl rfl ⟨Nat.le_of_ble_eq_true rfl, Nat.le_of_ble_eq_true rfl⟩) rfl hl.1 rfl (Nat.le_of_ble_eq_true rfl) ⟨Nat.zero_le _, Nat.zero_le _⟩ d_M_rest_JJI_72 ?_
              refine lv_topl (fun v7 e7 => ?_)
              refine lv_lstore (lv' := [(5, .long v7), (0, .long x0), (2, .long x2), (4, .int x4)]) hx hb d_M_rest_JJI_75 hl (by decide) rfl (fun ls hl => ?_)
              refine lv_lload_n hx hb d_M_rest_JJI_77 rfl (lv_at hl 2 rfl) ?_
              refine lv_iload hx hb d_M_rest_JJI_78 (lv_at hl 3 rfl) ?_
              refine pu_l (As := [.long x2, .int x4]) (rest := []) ⟨hx, hb, hml, hown, hts⟩ (c_M_whole_JI l _ t0 t1 t2 x2 x4 hk_x4) (pr_pre hRT) (gw_call (k := 2) hts tw_525 tw_526 tw_4 tw_527 (by decide +kernel) rfl rfl ⟨Nat.le_of_ble_eq_true rfl, Nat.le_of_ble_eq_true rfl⟩) rfl hl.1 rfl (Nat.le_of_ble_eq_true rfl) ⟨Nat.zero_le _, Nat.zero_le _⟩ d_M_rest_JJI_80 ?_
              refine lv_topl (fun v8 e8 => ?_)
              refine lv_lstore (lv' := [(7, .long v8), (5, .long v7), (0, .long x0), (2, .long x2), (4, .int x4)]) hx hb d_M_rest_JJI_83 hl (by decide) rfl (fun ls hl => ?_)
              refine lv_lload_n hx hb d_M_rest_JJI_85 rfl (lv_at hl 2 rfl) ?_
              refine lv_iload hx hb d_M_rest_JJI_86 (lv_at hl 4 rfl) ?_
              refine pu_i (As := [.long x0, .int x4]) (rest := []) ⟨hx, hb, hml, hown, hts⟩ (c_M_power_JI l _ t0 t1 t2 x0 x4 hk_x4) (pr_pre hRT) (gw_call (k := 2) hts tw_530 tw_531 tw_4 tw_532 (by decide +kernel) rfl rfl ⟨Nat.le_of_ble_eq_true rfl, Nat.le_of_ble_eq_true rfl⟩) rfl hl.1 rfl (Nat.le_of_ble_eq_true rfl) ⟨Nat.zero_le _, Nat.zero_le _⟩ d_M_rest_JJI_88 ?_
              refine lv_lload_n hx hb d_M_rest_JJI_91 rfl (lv_at hl 3 rfl) ?_
              refine lv_iload hx hb d_M_rest_JJI_92 (lv_at hl 4 rfl) ?_
              refine pu_i (As := [.long x2, .int x4]) (rest := [.int (f_M_power_JI x0 x4)]) ⟨hx, hb, hml, hown, hts⟩ (c_M_power_JI l _ t0 t1 t2 x2 x4 hk_x4) (pr_pre hRT) (gw_call (k := 2) hts tw_530 tw_531 tw_4 tw_532 (by decide +kernel) rfl rfl ⟨Nat.le_of_ble_eq_true rfl, Nat.le_of_ble_eq_true rfl⟩) rfl hl.1 rfl (Nat.le_of_ble_eq_true rfl) ⟨Nat.zero_le _, Nat.zero_le _⟩ d_M_rest_JJI_94 ?_
              refine lv_isub hx hb d_M_rest_JJI_97 ?_
              refine lv_topi (fun v9 e9 => ?_)
              refine lv_istore (lv' := [(9, .int v9), (7, .long v8), (5, .long v7), (0, .long x0), (2, .long x2), (4, .int x4)]) hx hb d_M_rest_JJI_98 hl (by decide) rfl (fun ls hl => ?_)
              refine lv_iload hx hb d_M_rest_JJI_100 (lv_at hl 0 rfl) ?_
              refine lv_if_ge (tgt := 132) hx hb d_M_rest_JJI_102 (by decide) (fun c10 => ?_) (fun c10 => ?_)
              · refine lv_lload hx hb d_M_rest_JJI_132 (lv_at hl 2 rfl) ?_
                refine lv_lload hx hb d_M_rest_JJI_134 (lv_at hl 1 rfl) ?_
                refine lv_lrem hx hb d_M_rest_JJI_136 hz_v8 ?_
                refine lv_topl (fun v11 e11 => ?_)
                refine lv_lstore (lv' := [(10, .long v11), (9, .int v9), (7, .long v8), (5, .long v7), (0, .long x0), (2, .long x2), (4, .int x4)]) hx hb d_M_rest_JJI_137 hl (by decide) rfl (fun ls hl => ?_)
                refine lv_iconst (v := 0) hx hb d_M_rest_JJI_139 (by decide) ?_
                refine lv_istore (lv' := [(12, .int (0 : Int32)), (10, .long v11), (9, .int v9), (7, .long v8), (5, .long v7), (0, .long x0), (2, .long x2), (4, .int x4)]) hx hb d_M_rest_JJI_140 hl (by decide) rfl (fun ls hl => ?_)
                exact k_M_rest_JJI_142 C0 hRT (v9.toNatClampNeg + 1) x0 x2 x4 v8 v9 v11 (0 : Int32) hk_x4 hz_v8 fl_first ls (lv_sub hl [5, 6, 7, 3, 2, 1, 0] rfl) (by have qe7 := e7.symm; have qe8 := e8.symm; have qe9 := e9.symm; have qe11 := e11.symm; subst qe7 qe8 qe9 qe11; exact (Eq.trans (if_pos c1) (Eq.trans (if_pos c2) (Eq.trans (if_pos c3) (Eq.trans (if_pos c4) (Eq.trans (if_pos c5) (Eq.trans (if_pos c6) (if_pos c10))))))))
              · refine lv_lload_n hx hb d_M_rest_JJI_105 rfl (lv_at hl 3 rfl) ?_
                refine lv_iload hx hb d_M_rest_JJI_106 (lv_at hl 5 rfl) ?_
                refine pu_i (As := [.long x0, .int x4]) (rest := []) ⟨hx, hb, hml, hown, hts⟩ (c_M_minus_JI l _ x0 x4) pu_pre (gw_call (k := 2) hts tw_519 tw_520 tw_4 tw_521 (by decide +kernel) rfl rfl ⟨Nat.le_of_ble_eq_true rfl, Nat.le_of_ble_eq_true rfl⟩) rfl hl.1 rfl (Nat.le_of_ble_eq_true rfl) ⟨Nat.zero_le _, Nat.zero_le _⟩ d_M_rest_JJI_108 ?_
                refine lv_lload hx hb d_M_rest_JJI_111 (lv_at hl 2 rfl) ?_
                refine lv_lload hx hb d_M_rest_JJI_113 (lv_at hl 1 rfl) ?_
                refine lv_iload hx hb d_M_rest_JJI_115 (lv_at hl 0 rfl) ?_
                refine lv_ineg hx hb d_M_rest_JJI_117 ?_
                refine lv_lshl (v := j_shl v8 (-v9)) hx hb d_M_rest_JJI_118 rfl ?_
                refine lv_lrem hx hb d_M_rest_JJI_119 hz_j_shl v8 (-v9) ?_
                refine lv_lload_n hx hb d_M_rest_JJI_120 rfl (lv_at hl 3 rfl) ?_
                refine lv_iload hx hb d_M_rest_JJI_121 (lv_at hl 5 rfl) ?_
                refine pu_i (As := [.long x0, .int x4]) (rest := [.long (v7 - v7 / (j_shl v8 (-v9)) * (j_shl v8 (-v9))), .int (f_M_minus_JI x0 x4)]) ⟨hx, hb, hml, hown, hts⟩ (c_M_power_JI l _ t0 t1 t2 x0 x4 hk_x4) (pr_pre hRT) (gw_call (k := 2) hts tw_530 tw_531 tw_4 tw_532 (by decide +kernel) rfl rfl ⟨Nat.le_of_ble_eq_true rfl, Nat.le_of_ble_eq_true rfl⟩) rfl hl.1 rfl (Nat.le_of_ble_eq_true rfl) ⟨Nat.zero_le _, Nat.zero_le _⟩ d_M_rest_JJI_123 ?_
                refine lv_iload hx hb d_M_rest_JJI_126 (lv_at hl 5 rfl) ?_
                refine pu_l (As := [.int (f_M_minus_JI x0 x4), .long (v7 - v7 / (j_shl v8 (-v9)) * (j_shl v8 (-v9))), .int (f_M_power_JI x0 x4), .int x4]) (rest := []) ⟨hx, hb, hml, hown, hts⟩ (c_M_exact_ZJII l _ t0 t1 t2 (f_M_minus_JI x0 x4) (v7 - v7 / (j_shl v8 (-v9)) * (j_shl v8 (-v9))) (f_M_power_JI x0 x4) x4 hk_x4) (pr_pre hRT) (gw_call (k := 4) hts tw_536 tw_537 tw_4 tw_538 (by decide +kernel) rfl rfl ⟨Nat.le_of_ble_eq_true rfl, Nat.le_of_ble_eq_true rfl⟩) rfl hl.1 rfl (Nat.le_of_ble_eq_true rfl) ⟨Nat.zero_le _, Nat.zero_le _⟩ d_M_rest_JJI_128 ?_
                exact pu_lret hx hb hr hlocks d_M_rest_JJI_131 (by have qe7 := e7.symm; have qe8 := e8.symm; have qe9 := e9.symm; subst qe7 qe8 qe9; exact Eq.symm (Eq.trans (if_pos c1) (Eq.trans (if_pos c2) (Eq.trans (if_pos c3) (Eq.trans (if_pos c4) (Eq.trans (if_pos c5) (Eq.trans (if_pos c6) (if_neg c10))))))))
            · refine lv_lload_n hx hb d_M_rest_JJI_67 rfl (lv_at hl 0 rfl) ?_
              exact pu_lret hx hb hr hlocks d_M_rest_JJI_68 (by exact Eq.symm (Eq.trans (if_pos c1) (Eq.trans (if_pos c2) (Eq.trans (if_pos c3) (Eq.trans (if_pos c4) (Eq.trans (if_pos c5) (if_neg c6)))))))
        · refine lv_iload hx hb d_M_rest_JJI_36 (lv_at hl 2 rfl) ?_
          refine pu_l (As := [.int x4]) (rest := []) ⟨hx, hb, hml, hown, hts⟩ (c_M_none_I l _ x4) pu_pre (gw_call (k := 1) hts tw_511 tw_512 tw_4 tw_513 (by decide +kernel) rfl rfl ⟨Nat.le_of_ble_eq_true rfl, Nat.le_of_ble_eq_true rfl⟩) rfl hl.1 rfl (Nat.le_of_ble_eq_true rfl) ⟨Nat.zero_le _, Nat.zero_le _⟩ d_M_rest_JJI_38 ?_
          exact pu_lret hx hb hr hlocks d_M_rest_JJI_41 (by exact Eq.symm (Eq.trans (if_pos c1) (Eq.trans (if_pos c2) (Eq.trans (if_pos c3) (if_neg c4)))))
-- ===== MotionLabModel.end(JJZ)J
abbrev y_M_end_JJZ : MethodName := ⟨"MotionLabModel", "end", "(JJZ)J"⟩
abbrev b_M_end_JJZ : ByteArray := prog_6_method_49_code
theorem d_M_end_JJZ_0 : decode b_M_end_JJZ 0 = .ok (.lload_n 0, 1) := by decide +kernel
theorem d_M_end_JJZ_1 : decode b_M_end_JJZ 1 = .ok (.lload_n 2, 1) := by decide +kernel
theorem d_M_end_JJZ_2 : decode b_M_end_JJZ 2 = .ok (.invokestatic 116, 3) := by decide +kernel
theorem d_M_end_JJZ_5 : decode b_M_end_JJZ 5 = .ok (.istore 5, 2) := by decide +kernel
theorem d_M_end_JJZ_7 : decode b_M_end_JJZ 7 = .ok (.iload 5, 2) := by decide +kernel
theorem d_M_end_JJZ_9 : decode b_M_end_JJZ 9 = .ok (.iconst 2, 1) := by decide +kernel
theorem d_M_end_JJZ_10 : decode b_M_end_JJZ 10 = .ok (.if_icmp .ne 7, 3) := by decide +kernel
theorem d_M_end_JJZ_13 : decode b_M_end_JJZ 13 = .ok (.ldc2_w 11, 3) := by decide +kernel
theorem d_M_end_JJZ_16 : decode b_M_end_JJZ 16 = .ok (.lreturn, 1) := by decide +kernel
theorem d_M_end_JJZ_17 : decode b_M_end_JJZ 17 = .ok (.iload 5, 2) := by decide +kernel
theorem d_M_end_JJZ_19 : decode b_M_end_JJZ 19 = .ok (.ifCond .ne 19, 3) := by decide +kernel
theorem d_M_end_JJZ_22 : decode b_M_end_JJZ 22 = .ok (.lload_n 0, 1) := by decide +kernel
theorem d_M_end_JJZ_23 : decode b_M_end_JJZ 23 = .ok (.iconst 0, 1) := by decide +kernel
theorem d_M_end_JJZ_24 : decode b_M_end_JJZ 24 = .ok (.invokestatic 76, 3) := by decide +kernel
theorem d_M_end_JJZ_27 : decode b_M_end_JJZ 27 = .ok (.iload 4, 2) := by decide +kernel
theorem d_M_end_JJZ_29 : decode b_M_end_JJZ 29 = .ok (.if_icmp .eq 7, 3) := by decide +kernel
theorem d_M_end_JJZ_32 : decode b_M_end_JJZ 32 = .ok (.lload_n 0, 1) := by decide +kernel
theorem d_M_end_JJZ_33 : decode b_M_end_JJZ 33 = .ok (.goto 4, 3) := by decide +kernel
theorem d_M_end_JJZ_36 : decode b_M_end_JJZ 36 = .ok (.lload_n 2, 1) := by decide +kernel
theorem d_M_end_JJZ_37 : decode b_M_end_JJZ 37 = .ok (.lreturn, 1) := by decide +kernel
theorem d_M_end_JJZ_38 : decode b_M_end_JJZ 38 = .ok (.iload 5, 2) := by decide +kernel
theorem d_M_end_JJZ_40 : decode b_M_end_JJZ 40 = .ok (.ifCond .ge 7, 3) := by decide +kernel
theorem d_M_end_JJZ_43 : decode b_M_end_JJZ 43 = .ok (.iconst 1, 1) := by decide +kernel
theorem d_M_end_JJZ_44 : decode b_M_end_JJZ 44 = .ok (.goto 4, 3) := by decide +kernel
theorem d_M_end_JJZ_47 : decode b_M_end_JJZ 47 = .ok (.iconst 0, 1) := by decide +kernel
theorem d_M_end_JJZ_48 : decode b_M_end_JJZ 48 = .ok (.iload 4, 2) := by decide +kernel
theorem d_M_end_JJZ_50 : decode b_M_end_JJZ 50 = .ok (.if_icmp .eq 7, 3) := by decide +kernel
theorem d_M_end_JJZ_53 : decode b_M_end_JJZ 53 = .ok (.lload_n 0, 1) := by decide +kernel
theorem d_M_end_JJZ_54 : decode b_M_end_JJZ 54 = .ok (.goto 4, 3) := by decide +kernel
theorem d_M_end_JJZ_57 : decode b_M_end_JJZ 57 = .ok (.lload_n 2, 1) := by decide +kernel
theorem d_M_end_JJZ_58 : decode b_M_end_JJZ 58 = .ok (.lreturn, 1) := by decide +kernel
def f_M_end_JJZ (x0 : Int64) (x2 : Int64) (x4 : Int32) : Int64 :=
  let v1 : Int32 := f_M_order_JJ x0 x2
  if v1 = (2 : Int32) then
    (9221120237041090560 : Int64)
  else
    if v1 = 0 then
      if (f_M_minus_JI x0 (0 : Int32)) = x4 then
        x2
      else
        x0
    else
      if 0 ≤ v1 then
        if (0 : Int32) = x4 then
          x2
        else
          x0
      else
        if (1 : Int32) = x4 then
          x2
        else
          x0
set_option maxHeartbeats 4000000 in
set_option maxRecDepth 100000 in
theorem c_M_end_JJZ (l : Launch) (h : Heap) (x0 : Int64) (x2 : Int64) (x4 : Int32) : Met l y_M_end_JJZ (gw y_M_end_JJZ b_M_end_JJZ 6 (some .long)) { frames := 4, cells := 0, slots := 0, locals := 91 } (pu_Pc [.long x0, .long x2, .int x4] h) (pu_Ml (f_M_end_JJZ x0 x2 x4) h) 0 0 (fun _ => False) := by
  refine Met.ofW (cc := b_M_end_JJZ) (maxL := 6) (ret := (some .long)) (by decide) rfl ?_
  intro p e s m args below meth c s₁ B hml hv
  obtain ⟨rfl, hh⟩ := hv
  subst hh
  have hx := B.exec
  have hb := B.bytes
  have hr := B.returns
  have hts := atoms_spec (ws := (gw y_M_end_JJZ b_M_end_JJZ 6 (some .long))) B.pre
  have hown : s.vm.findClass "MotionLabModel" = some m.cls := findClass_of_methodNamed B.named
  have hlocks := B.notSynchronized
  have C0 : pu_C p s m _ meth c b_M_end_JJZ 6 "MotionLabModel" (some .long) (gw y_M_end_JJZ b_M_end_JJZ 6 (some .long)) := ⟨hx, hb, hml, hown, hts, hr, hlocks⟩
  have hl := lv_entry ([.long x0, .long x2, .int x4]) (n := 6) (Nat.le_of_ble_eq_true rfl)
  rw [lg_entry_eq]
  generalize (lg_sl ([.long x0, .long x2, .int x4]) ++ List.replicate (6 - (lg_sl ([.long x0, .long x2, .int x4])).length) Slot.unset).toArray = ls at hl ⊢
  have hl : lv_has ls 6 [(0, .long x0), (2, .long x2), (4, .int x4)] := hl
  refine lv_lload_n hx hb d_M_end_JJZ_0 rfl (lv_at hl 0 rfl) ?_
  refine lv_lload_n hx hb d_M_end_JJZ_1 rfl (lv_at hl 1 rfl) ?_
  refine pu_i (As := [.long x0, .long x2]) (rest := []) ⟨hx, hb, hml, hown, hts⟩ (c_M_order_JJ l _ x0 x2) pu_pre (gw_call (k := 2) hts tw_617 tw_618 tw_4 tw_619 (by decide +kernel) rfl rfl ⟨Nat.le_of_ble_eq_true rfl, Nat.le_of_ble_eq_true rfl⟩) rfl hl.1 rfl (Nat.le_of_ble_eq_true rfl) ⟨Nat.zero_le _, Nat.zero_le _⟩ d_M_end_JJZ_2 ?_
  refine lv_topi (fun v1 e1 => ?_)
  refine lv_istore (lv' := [(5, .int v1), (0, .long x0), (2, .long x2), (4, .int x4)]) hx hb d_M_end_JJZ_5 hl (by decide) rfl (fun ls hl => ?_)
  refine lv_iload hx hb d_M_end_JJZ_7 (lv_at hl 0 rfl) ?_
  refine lv_iconst (v := 2) hx hb d_M_end_JJZ_9 (by decide) ?_
  refine lv_icmp_ne (tgt := 17) hx hb d_M_end_JJZ_10 (by decide) (fun c2 => ?_) (fun c2 => ?_)
  · refine lv_iload hx hb d_M_end_JJZ_17 (lv_at hl 0 rfl) ?_
    refine lv_if_ne (tgt := 38) hx hb d_M_end_JJZ_19 (by decide) (fun c3 => ?_) (fun c3 => ?_)
    · refine lv_iload hx hb d_M_end_JJZ_38 (lv_at hl 0 rfl) ?_
      refine lv_if_ge (tgt := 47) hx hb d_M_end_JJZ_40 (by decide) (fun c4 => ?_) (fun c4 => ?_)
      · refine lv_iconst (v := 0) hx hb d_M_end_JJZ_47 (by decide) ?_
        refine lv_iload hx hb d_M_end_JJZ_48 (lv_at hl 3 rfl) ?_
        refine lv_icmp_eq (tgt := 57) hx hb d_M_end_JJZ_50 (by decide) (fun c5 => ?_) (fun c5 => ?_)
        · refine lv_lload_n hx hb d_M_end_JJZ_57 rfl (lv_at hl 2 rfl) ?_
          exact pu_lret hx hb hr hlocks d_M_end_JJZ_58 (by have qe1 := e1.symm; subst qe1; exact Eq.symm (Eq.trans (if_neg c2) (Eq.trans (if_neg c3) (Eq.trans (if_pos c4) (if_pos c5)))))
        · refine lv_lload_n hx hb d_M_end_JJZ_53 rfl (lv_at hl 1 rfl) ?_
          refine lv_goto (tgt := 58) hx hb d_M_end_JJZ_54 (by decide) ?_
          exact pu_lret hx hb hr hlocks d_M_end_JJZ_58 (by have qe1 := e1.symm; subst qe1; exact Eq.symm (Eq.trans (if_neg c2) (Eq.trans (if_neg c3) (Eq.trans (if_pos c4) (if_neg c5)))))
      · refine lv_iconst (v := 1) hx hb d_M_end_JJZ_43 (by decide) ?_
        refine lv_goto (tgt := 48) hx hb d_M_end_JJZ_44 (by decide) ?_
        refine lv_iload hx hb d_M_end_JJZ_48 (lv_at hl 3 rfl) ?_
        refine lv_icmp_eq (tgt := 57) hx hb d_M_end_JJZ_50 (by decide) (fun c6 => ?_) (fun c6 => ?_)
        · refine lv_lload_n hx hb d_M_end_JJZ_57 rfl (lv_at hl 2 rfl) ?_
          exact pu_lret hx hb hr hlocks d_M_end_JJZ_58 (by have qe1 := e1.symm; subst qe1; exact Eq.symm (Eq.trans (if_neg c2) (Eq.trans (if_neg c3) (Eq.trans (if_neg c4) (if_pos c6)))))
        · refine lv_lload_n hx hb d_M_end_JJZ_53 rfl (lv_at hl 1 rfl) ?_
          refine lv_goto (tgt := 58) hx hb d_M_end_JJZ_54 (by decide) ?_
          exact pu_lret hx hb hr hlocks d_M_end_JJZ_58 (by have qe1 := e1.symm; subst qe1; exact Eq.symm (Eq.trans (if_neg c2) (Eq.trans (if_neg c3) (Eq.trans (if_neg c4) (if_neg c6)))))
    · refine lv_lload_n hx hb d_M_end_JJZ_22 rfl (lv_at hl 1 rfl) ?_
      refine lv_iconst (v := 0) hx hb d_M_end_JJZ_23 (by decide) ?_
      refine pu_i (As := [.long x0, .int (0 : Int32)]) (rest := []) ⟨hx, hb, hml, hown, hts⟩ (c_M_minus_JI l _ x0 (0 : Int32)) pu_pre (gw_call (k := 2) hts tw_519 tw_520 tw_4 tw_521 (by decide +kernel) rfl rfl ⟨Nat.le_of_ble_eq_true rfl, Nat.le_of_ble_eq_true rfl⟩) rfl hl.1 rfl (Nat.le_of_ble_eq_true rfl) ⟨Nat.zero_le _, Nat.zero_le _⟩ d_M_end_JJZ_24 ?_
      refine lv_iload hx hb d_M_end_JJZ_27 (lv_at hl 3 rfl) ?_
      refine lv_icmp_eq (tgt := 36) hx hb d_M_end_JJZ_29 (by decide) (fun c7 => ?_) (fun c7 => ?_)
      · refine lv_lload_n hx hb d_M_end_JJZ_36 rfl (lv_at hl 2 rfl) ?_
        exact pu_lret hx hb hr hlocks d_M_end_JJZ_37 (by have qe1 := e1.symm; subst qe1; exact Eq.symm (Eq.trans (if_neg c2) (Eq.trans (if_pos c3) (if_pos c7))))
      · refine lv_lload_n hx hb d_M_end_JJZ_32 rfl (lv_at hl 1 rfl) ?_
        refine lv_goto (tgt := 37) hx hb d_M_end_JJZ_33 (by decide) ?_
        exact pu_lret hx hb hr hlocks d_M_end_JJZ_37 (by have qe1 := e1.symm; subst qe1; exact Eq.symm (Eq.trans (if_neg c2) (Eq.trans (if_pos c3) (if_neg c7))))
  · refine lv_ldc2 (v := (9221120237041090560 : Int64)) hx hb hown (hts _ (gm tw_514)) d_M_end_JJZ_13 ?_
    exact pu_lret hx hb hr hlocks d_M_end_JJZ_16 (by have qe1 := e1.symm; subst qe1; exact Eq.symm (if_pos c2))
