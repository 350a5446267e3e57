-- ===== MotionLabModel.rest(JJI)J
abbrev y_M_rest_JJI : MethodName := ⟨"MotionLabModel", "rest", "(JJI)J"⟩
abbrev b_M_rest_JJI : ByteArray := prog_6_method_20_code
theorem d_M_rest_JJI_0 : decode b_M_rest_JJI 0 = .ok (.lload_n 0, 1) := by decide +kernel
theorem d_M_rest_JJI_1 : decode b_M_rest_JJI 1 = .ok (.iload 4, 2) := by decide +kernel
theorem d_M_rest_JJI_3 : decode b_M_rest_JJI 3 = .ok (.invokestatic 56, 3) := by decide +kernel
theorem d_M_rest_JJI_6 : decode b_M_rest_JJI 6 = .ok (.ifCond .ne 30, 3) := by decide +kernel
theorem d_M_rest_JJI_9 : decode b_M_rest_JJI 9 = .ok (.lload_n 2, 1) := by decide +kernel
theorem d_M_rest_JJI_10 : decode b_M_rest_JJI 10 = .ok (.iload 4, 2) := by decide +kernel
theorem d_M_rest_JJI_12 : decode b_M_rest_JJI 12 = .ok (.invokestatic 56, 3) := by decide +kernel
theorem d_M_rest_JJI_15 : decode b_M_rest_JJI 15 = .ok (.ifCond .ne 21, 3) := by decide +kernel
theorem d_M_rest_JJI_18 : decode b_M_rest_JJI 18 = .ok (.lload_n 0, 1) := by decide +kernel
theorem d_M_rest_JJI_19 : decode b_M_rest_JJI 19 = .ok (.iload 4, 2) := by decide +kernel
theorem d_M_rest_JJI_21 : decode b_M_rest_JJI 21 = .ok (.invokestatic 63, 3) := by decide +kernel
theorem d_M_rest_JJI_24 : decode b_M_rest_JJI 24 = .ok (.ifCond .ne 12, 3) := by decide +kernel
theorem d_M_rest_JJI_27 : decode b_M_rest_JJI 27 = .ok (.lload_n 2, 1) := by decide +kernel
theorem d_M_rest_JJI_28 : decode b_M_rest_JJI 28 = .ok (.iload 4, 2) := by decide +kernel
theorem d_M_rest_JJI_30 : decode b_M_rest_JJI 30 = .ok (.invokestatic 66, 3) := by decide +kernel
theorem d_M_rest_JJI_33 : decode b_M_rest_JJI 33 = .ok (.ifCond .eq 9, 3) := by decide +kernel
theorem d_M_rest_JJI_36 : decode b_M_rest_JJI 36 = .ok (.iload 4, 2) := by decide +kernel
theorem d_M_rest_JJI_38 : decode b_M_rest_JJI 38 = .ok (.invokestatic 60, 3) := by decide +kernel
theorem d_M_rest_JJI_41 : decode b_M_rest_JJI 41 = .ok (.lreturn, 1) := by decide +kernel
theorem d_M_rest_JJI_42 : decode b_M_rest_JJI 42 = .ok (.lload_n 2, 1) := by decide +kernel
theorem d_M_rest_JJI_43 : decode b_M_rest_JJI 43 = .ok (.iload 4, 2) := by decide +kernel
theorem d_M_rest_JJI_45 : decode b_M_rest_JJI 45 = .ok (.invokestatic 63, 3) := by decide +kernel
theorem d_M_rest_JJI_48 : decode b_M_rest_JJI 48 = .ok (.ifCond .ne 19, 3) := by decide +kernel
theorem d_M_rest_JJI_51 : decode b_M_rest_JJI 51 = .ok (.lload_n 0, 1) := by decide +kernel
theorem d_M_rest_JJI_52 : decode b_M_rest_JJI 52 = .ok (.iload 4, 2) := by decide +kernel
theorem d_M_rest_JJI_54 : decode b_M_rest_JJI 54 = .ok (.invokestatic 15, 3) := by decide +kernel
theorem d_M_rest_JJI_57 : decode b_M_rest_JJI 57 = .ok (.lload_n 2, 1) := by decide +kernel
theorem d_M_rest_JJI_58 : decode b_M_rest_JJI 58 = .ok (.iload 4, 2) := by decide +kernel
theorem d_M_rest_JJI_60 : decode b_M_rest_JJI 60 = .ok (.invokestatic 15, 3) := by decide +kernel
theorem d_M_rest_JJI_63 : decode b_M_rest_JJI 63 = .ok (.lcmp, 1) := by decide +kernel
theorem d_M_rest_JJI_64 : decode b_M_rest_JJI 64 = .ok (.ifCond .ge 5, 3) := by decide +kernel
theorem d_M_rest_JJI_67 : decode b_M_rest_JJI 67 = .ok (.lload_n 0, 1) := by decide +kernel
theorem d_M_rest_JJI_68 : decode b_M_rest_JJI 68 = .ok (.lreturn, 1) := by decide +kernel
theorem d_M_rest_JJI_69 : decode b_M_rest_JJI 69 = .ok (.lload_n 0, 1) := by decide +kernel
theorem d_M_rest_JJI_70 : decode b_M_rest_JJI 70 = .ok (.iload 4, 2) := by decide +kernel
theorem d_M_rest_JJI_72 : decode b_M_rest_JJI 72 = .ok (.invokestatic 73, 3) := by decide +kernel
theorem d_M_rest_JJI_75 : decode b_M_rest_JJI 75 = .ok (.lstore 5, 2) := by decide +kernel
theorem d_M_rest_JJI_77 : decode b_M_rest_JJI 77 = .ok (.lload_n 2, 1) := by decide +kernel
theorem d_M_rest_JJI_78 : decode b_M_rest_JJI 78 = .ok (.iload 4, 2) := by decide +kernel
theorem d_M_rest_JJI_80 : decode b_M_rest_JJI 80 = .ok (.invokestatic 73, 3) := by decide +kernel
theorem d_M_rest_JJI_83 : decode b_M_rest_JJI 83 = .ok (.lstore 7, 2) := by decide +kernel
theorem d_M_rest_JJI_85 : decode b_M_rest_JJI 85 = .ok (.lload_n 0, 1) := by decide +kernel
theorem d_M_rest_JJI_86 : decode b_M_rest_JJI 86 = .ok (.iload 4, 2) := by decide +kernel
theorem d_M_rest_JJI_88 : decode b_M_rest_JJI 88 = .ok (.invokestatic 69, 3) := by decide +kernel
theorem d_M_rest_JJI_91 : decode b_M_rest_JJI 91 = .ok (.lload_n 2, 1) := by decide +kernel
theorem d_M_rest_JJI_92 : decode b_M_rest_JJI 92 = .ok (.iload 4, 2) := by decide +kernel
theorem d_M_rest_JJI_94 : decode b_M_rest_JJI 94 = .ok (.invokestatic 69, 3) := by decide +kernel
theorem d_M_rest_JJI_97 : decode b_M_rest_JJI 97 = .ok (.isub, 1) := by decide +kernel
theorem d_M_rest_JJI_98 : decode b_M_rest_JJI 98 = .ok (.istore 9, 2) := by decide +kernel
theorem d_M_rest_JJI_100 : decode b_M_rest_JJI 100 = .ok (.iload 9, 2) := by decide +kernel
theorem d_M_rest_JJI_102 : decode b_M_rest_JJI 102 = .ok (.ifCond .ge 30, 3) := by decide +kernel
theorem d_M_rest_JJI_105 : decode b_M_rest_JJI 105 = .ok (.lload_n 0, 1) := by decide +kernel
theorem d_M_rest_JJI_106 : decode b_M_rest_JJI 106 = .ok (.iload 4, 2) := by decide +kernel
theorem d_M_rest_JJI_108 : decode b_M_rest_JJI 108 = .ok (.invokestatic 76, 3) := by decide +kernel
theorem d_M_rest_JJI_111 : decode b_M_rest_JJI 111 = .ok (.lload 5, 2) := by decide +kernel
theorem d_M_rest_JJI_113 : decode b_M_rest_JJI 113 = .ok (.lload 7, 2) := by decide +kernel
theorem d_M_rest_JJI_115 : decode b_M_rest_JJI 115 = .ok (.iload 9, 2) := by decide +kernel
theorem d_M_rest_JJI_117 : decode b_M_rest_JJI 117 = .ok (.ineg, 1) := by decide +kernel
theorem d_M_rest_JJI_118 : decode b_M_rest_JJI 118 = .ok (.lshl, 1) := by decide +kernel
theorem d_M_rest_JJI_119 : decode b_M_rest_JJI 119 = .ok (.lrem, 1) := by decide +kernel
theorem d_M_rest_JJI_120 : decode b_M_rest_JJI 120 = .ok (.lload_n 0, 1) := by decide +kernel
theorem d_M_rest_JJI_121 : decode b_M_rest_JJI 121 = .ok (.iload 4, 2) := by decide +kernel
theorem d_M_rest_JJI_123 : decode b_M_rest_JJI 123 = .ok (.invokestatic 69, 3) := by decide +kernel
theorem d_M_rest_JJI_126 : decode b_M_rest_JJI 126 = .ok (.iload 4, 2) := by decide +kernel
theorem d_M_rest_JJI_128 : decode b_M_rest_JJI 128 = .ok (.invokestatic 89, 3) := by decide +kernel
theorem d_M_rest_JJI_131 : decode b_M_rest_JJI 131 = .ok (.lreturn, 1) := by decide +kernel
theorem d_M_rest_JJI_132 : decode b_M_rest_JJI 132 = .ok (.lload 5, 2) := by decide +kernel
theorem d_M_rest_JJI_134 : decode b_M_rest_JJI 134 = .ok (.lload 7, 2) := by decide +kernel
theorem d_M_rest_JJI_136 : decode b_M_rest_JJI 136 = .ok (.lrem, 1) := by decide +kernel
theorem d_M_rest_JJI_137 : decode b_M_rest_JJI 137 = .ok (.lstore 10, 2) := by decide +kernel
theorem d_M_rest_JJI_139 : decode b_M_rest_JJI 139 = .ok (.iconst 0, 1) := by decide +kernel
theorem d_M_rest_JJI_140 : decode b_M_rest_JJI 140 = .ok (.istore 12, 2) := by decide +kernel
theorem d_M_rest_JJI_142 : decode b_M_rest_JJI 142 = .ok (.iload 12, 2) := by decide +kernel
theorem d_M_rest_JJI_144 : decode b_M_rest_JJI 144 = .ok (.iload 9, 2) := by decide +kernel
theorem d_M_rest_JJI_146 : decode b_M_rest_JJI 146 = .ok (.if_icmp .ge 18, 3) := by decide +kernel
theorem d_M_rest_JJI_149 : decode b_M_rest_JJI 149 = .ok (.lload 10, 2) := by decide +kernel
theorem d_M_rest_JJI_151 : decode b_M_rest_JJI 151 = .ok (.iconst 1, 1) := by decide +kernel
theorem d_M_rest_JJI_152 : decode b_M_rest_JJI 152 = .ok (.lshl, 1) := by decide +kernel
theorem d_M_rest_JJI_153 : decode b_M_rest_JJI 153 = .ok (.lload 7, 2) := by decide +kernel
theorem d_M_rest_JJI_155 : decode b_M_rest_JJI 155 = .ok (.lrem, 1) := by decide +kernel
theorem d_M_rest_JJI_156 : decode b_M_rest_JJI 156 = .ok (.lstore 10, 2) := by decide +kernel
theorem d_M_rest_JJI_158 : decode b_M_rest_JJI 158 = .ok (.iinc 12 1, 3) := by decide +kernel
theorem d_M_rest_JJI_161 : decode b_M_rest_JJI 161 = .ok (.goto (-19), 3) := by decide +kernel
theorem d_M_rest_JJI_164 : decode b_M_rest_JJI 164 = .ok (.lload_n 0, 1) := by decide +kernel
theorem d_M_rest_JJI_165 : decode b_M_rest_JJI 165 = .ok (.iload 4, 2) := by decide +kernel
theorem d_M_rest_JJI_167 : decode b_M_rest_JJI 167 = .ok (.invokestatic 76, 3) := by decide +kernel
theorem d_M_rest_JJI_170 : decode b_M_rest_JJI 170 = .ok (.lload 10, 2) := by decide +kernel
theorem d_M_rest_JJI_172 : decode b_M_rest_JJI 172 = .ok (.lload_n 2, 1) := by decide +kernel
theorem d_M_rest_JJI_173 : decode b_M_rest_JJI 173 = .ok (.iload 4, 2) := by decide +kernel
theorem d_M_rest_JJI_175 : decode b_M_rest_JJI 175 = .ok (.invokestatic 69, 3) := by decide +kernel
theorem d_M_rest_JJI_178 : decode b_M_rest_JJI 178 = .ok (.iload 4, 2) := by decide +kernel
theorem d_M_rest_JJI_180 : decode b_M_rest_JJI 180 = .ok (.invokestatic 89, 3) := by decide +kernel
theorem d_M_rest_JJI_183 : decode b_M_rest_JJI 183 = .ok (.lreturn, 1) := by decide +kernel
def f_M_rest_JJI_142 : Nat → Int64 → Int64 → Int32 → Int64 → Int32 → Int64 → Int32 → Int64
  | 0, _, _, _, _, _, _, _ => 0
  | n + 1, x0, x2, x4, x7, x9, x10, x12 =>
    if x9 ≤ x12 then
      f_M_exact_ZJII (f_M_minus_JI x0 x4) x10 (f_M_power_JI x2 x4) x4
    else
      let v2 : Int64 := (j_shl x10 (1 : Int32)) - (j_shl x10 (1 : Int32)) / x7 * x7
      let v3 : Int32 := x12 + 1
      f_M_rest_JJI_142 n x0 x2 x4 x7 x9 v2 v3
set_option maxHeartbeats 4000000 in
set_option maxRecDepth 100000 in
theorem k_M_rest_JJI_142 {p : Program} {l : Launch} {e : Env} {s : State} {m : MethodId} {args : Array Value} {below : List Frame} {meth : Method} {c : Code} (C0 : pu_C p s m args meth c b_M_rest_JJI 13 "MotionLabModel" (some .long) (gw y_M_rest_JJI b_M_rest_JJI 13 (some .long))) {t0 t1 t2 : Nat} (hRT : RTH t0 t1 t2 s s.heap) (n : Nat) : ∀ (x0 : Int64) (x2 : Int64) (x4 : Int32) (x7 : Int64) (x9 : Int32) (x10 : Int64) (x12 : Int32) (hk_x4 : vp_in x4 2) (hz_x7 : ¬ x7 = 0) (hinv : ∃ j : Nat, x12 = nI j ∧ j ≤ x9.toNatClampNeg ∧ x9.toNatClampNeg - j < n) (ls : Array Slot) (hl : lv_has ls 13 [(0, .long x0), (2, .long x2), (4, .int x4), (7, .long x7), (9, .int x9), (10, .long x10), (12, .int x12)]) {w : Int64} (hw : w = f_M_rest_JJI_142 n x0 x2 x4 x7 x9 x10 x12), W p l e (headSpec (gw y_M_rest_JJI b_M_rest_JJI 13 (some .long)) ({ frames := 4, cells := 0, slots := 0, locals := 101 } : Room)).room s m args below meth c s.heap [] 0 0 (pu_Ql w below args s) (F0 m 142 ls []) := by
  obtain ⟨hx, hb, hml, hown, hts, hr, hlocks⟩ := id C0
  obtain ⟨hT0, hT1, hT2⟩ := id hRT
  induction n with
  | zero => intro x0 x2 x4 x7 x9 x10 x12 hk_x4 hz_x7 hinv ls hl w hw; exact (fl_zero hinv).elim
  | succ n ih =>
    intro x0 x2 x4 x7 x9 x10 x12 hk_x4 hz_x7 hinv ls hl w hw
    refine lv_iload hx hb d_M_rest_JJI_142 (lv_at hl 6 rfl) ?_
    refine lv_iload hx hb d_M_rest_JJI_144 (lv_at hl 4 rfl) ?_
    refine lv_icmp_ge (tgt := 164) hx hb d_M_rest_JJI_146 (by decide) (fun c1 => ?_) (fun c1 => ?_)
    · refine lv_lload_n hx hb d_M_rest_JJI_164 rfl (lv_at hl 0 rfl) ?_
      refine lv_iload hx hb d_M_rest_JJI_165 (lv_at hl 2 rfl) ?_
      refine pu_i (As := [.long x0, .int x4]) (rest := []) ⟨hx, hb, hml, hown, hts⟩ (c_M_minus_JI l _ x0 x4) pu_pre (gw_call (k := 2) hts tw_519 tw_520 tw_4 tw_521 (by decide +kernel) rfl rfl ⟨Nat.le_of_ble_eq_true rfl, Nat.le_of_ble_eq_true rfl⟩) rfl hl.1 rfl (Nat.le_of_ble_eq_true rfl) ⟨Nat.zero_le _, Nat.zero_le _⟩ d_M_rest_JJI_167 ?_
      refine lv_lload hx hb d_M_rest_JJI_170 (lv_at hl 5 rfl) ?_
      refine lv_lload_n hx hb d_M_rest_JJI_172 rfl (lv_at hl 1 rfl) ?_
      refine lv_iload hx hb d_M_rest_JJI_173 (lv_at hl 2 rfl) ?_
      refine pu_i (As := [.long x2, .int x4]) (rest := [.long x10, .int (f_M_minus_JI x0 x4)]) ⟨hx, hb, hml, hown, hts⟩ (c_M_power_JI l _ t0 t1 t2 x2 x4 hk_x4) (pr_pre hRT) (gw_call (k := 2) hts tw_530 tw_531 tw_4 tw_532 (by decide +kernel) rfl rfl ⟨Nat.le_of_ble_eq_true rfl, Nat.le_of_ble_eq_true rfl⟩) rfl hl.1 rfl (Nat.le_of_ble_eq_true rfl) ⟨Nat.zero_le _, Nat.zero_le _⟩ d_M_rest_JJI_175 ?_
      refine lv_iload hx hb d_M_rest_JJI_178 (lv_at hl 2 rfl) ?_
      refine pu_l (As := [.int (f_M_minus_JI x0 x4), .long x10, .int (f_M_power_JI x2 x4), .int x4]) (rest := []) ⟨hx, hb, hml, hown, hts⟩ (c_M_exact_ZJII l _ t0 t1 t2 (f_M_minus_JI x0 x4) x10 (f_M_power_JI x2 x4) x4 hk_x4) (pr_pre hRT) (gw_call (k := 4) hts tw_536 tw_537 tw_4 tw_538 (by decide +kernel) rfl rfl ⟨Nat.le_of_ble_eq_true rfl, Nat.le_of_ble_eq_true rfl⟩) rfl hl.1 rfl (Nat.le_of_ble_eq_true rfl) ⟨Nat.zero_le _, Nat.zero_le _⟩ d_M_rest_JJI_180 ?_
      exact pu_lret hx hb hr hlocks d_M_rest_JJI_183 (by exact Eq.symm (hw.trans (if_pos c1)))
    · refine lv_lload hx hb d_M_rest_JJI_149 (lv_at hl 5 rfl) ?_
      refine lv_iconst (v := 1) hx hb d_M_rest_JJI_151 (by decide) ?_
      refine lv_lshl (v := j_shl x10 (1 : Int32)) hx hb d_M_rest_JJI_152 rfl ?_
      refine lv_lload hx hb d_M_rest_JJI_153 (lv_at hl 3 rfl) ?_
      refine lv_lrem hx hb d_M_rest_JJI_155 hz_x7 ?_
      refine lv_topl (fun v2 e2 => ?_)
      refine lv_lstore (lv' := [(10, .long v2), (0, .long x0), (2, .long x2), (4, .int x4), (7, .long x7), (9, .int x9), (12, .int x12)]) hx hb d_M_rest_JJI_156 hl (by decide) rfl (fun ls hl => ?_)
      obtain ⟨v3, e3⟩ : ∃ y : Int32, y = x12 + 1 := ⟨_, rfl⟩
      refine lv_iinc (v := v3) (lv' := [(12, .int v3), (10, .long v2), (0, .long x0), (2, .long x2), (4, .int x4), (7, .long x7), (9, .int x9)]) hx hb d_M_rest_JJI_158 hl (k := 6) rfl (by rw [e3]; rfl) (by decide) rfl (fun ls hl => ?_)
      refine lv_goto (tgt := 142) hx hb d_M_rest_JJI_161 (by decide) ?_
      exact ih x0 x2 x4 x7 x9 v2 v3 hk_x4 hz_x7 (by rw [e3]; exact fl_up hinv c1) ls (lv_sub hl [2, 3, 4, 5, 6, 1, 0] rfl) (by have qe2 := e2.symm; have qe3 := e3.symm; subst qe2 qe3; exact (hw.trans (if_neg c1)))
def f_M_rest_JJI (x0 : Int64) (x2 : Int64) (x4 : Int32) : Int64 :=
  if (f_M_isNone_JI x0 x4) = 0 then
    if (f_M_isNone_JI x2 x4) = 0 then
      if (f_M_isInfinite_JI x0 x4) = 0 then
        if (f_M_isZero_JI x2 x4) = 0 then
          if (f_M_isInfinite_JI x2 x4) = 0 then
            if 0 ≤ (lg_cmp (f_M_size_JI x0 x4) (f_M_size_JI x2 x4)) then
              let v7 : Int64 := f_M_whole_JI x0 x4
              let v8 : Int64 := f_M_whole_JI x2 x4
              let v9 : Int32 := (f_M_power_JI x0 x4) - (f_M_power_JI x2 x4)
              if 0 ≤ v9 then
                let v11 : Int64 := v7 - v7 / v8 * v8
                f_M_rest_JJI_142 (v9.toNatClampNeg + 1) x0 x2 x4 v8 v9 v11 (0 : Int32)
              else
                f_M_exact_ZJII (f_M_minus_JI x0 x4) (v7 - v7 / (j_shl v8 (-v9)) * (j_shl v8 (-v9))) (f_M_power_JI x0 x4) x4
            else
              x0
          else
            x0
        else
          f_M_none_I x4
      else
        f_M_none_I x4
    else
      f_M_none_I x4
  else
    f_M_none_I x4
set_option maxHeartbeats 4000000 in
set_option maxRecDepth 100000 in
theorem c_M_rest_JJI (l : Launch) (h : Heap) (t0 t1 t2 : Nat) (x0 : Int64) (x2 : Int64) (x4 : Int32) (hk_x4 : vp_in x4 2) : Met l y_M_rest_JJI (gw y_M_rest_JJI b_M_rest_JJI 13 (some .long)) { frames := 4, cells := 0, slots := 0, locals := 101 } (pr_Pc [.long x0, .long x2, .int x4] h t0 t1 t2) (pu_Ml (f_M_rest_JJI x0 x2 x4) h) 0 0 (fun _ => False) := by
  refine Met.ofW (cc := b_M_rest_JJI) (maxL := 13) (ret := (some .long)) (by decide) rfl ?_
  intro p e s m args below meth c s₁ B hml hv
  obtain ⟨rfl, hh, hRT⟩ := hv
  subst hh
  obtain ⟨hT0, hT1, hT2⟩ := id hRT
  have hx := B.exec
  have hb := B.bytes
  have hr := B.returns
  have hts := atoms_spec (ws := (gw y_M_rest_JJI b_M_rest_JJI 13 (some .long))) B.pre
  have hown : s.vm.findClass "MotionLabModel" = some m.cls := findClass_of_methodNamed B.named
  have hlocks := B.notSynchronized
  have C0 : pu_C p s m _ meth c b_M_rest_JJI 13 "MotionLabModel" (some .long) (gw y_M_rest_JJI b_M_rest_JJI 13 (some .long)) := ⟨hx, hb, hml, hown, hts, hr, hlocks⟩
  have hl := lv_entry ([.long x0, .long x2, .int x4]) (n := 13) (Nat.le_of_ble_eq_true rfl)
  rw [lg_entry_eq]
  generalize (lg_sl ([.long x0, .long x2, .int x4]) ++ List.replicate (13 - (lg_sl ([.long x0, .long x2, .int x4])).length) Slot.unset).toArray = ls at hl ⊢
  have hl : lv_has ls 13 [(0, .long x0), (2, .long x2), (4, .int x4)] := hl
  refine lv_lload_n hx hb d_M_rest_JJI_0 rfl (lv_at hl 0 rfl) ?_
  refine lv_iload hx hb d_M_rest_JJI_1 (lv_at hl 2 rfl) ?_
  refine pu_i (As := [.long x0, .int x4]) (rest := []) ⟨hx, hb, hml, hown, hts⟩ (c_M_isNone_JI l _ x0 x4) pu_pre (gw_call (k := 2) hts tw_498 tw_499 tw_4 tw_500 (by decide +kernel) rfl rfl ⟨Nat.le_of_ble_eq_true rfl, Nat.le_of_ble_eq_true rfl⟩) rfl hl.1 rfl (Nat.le_of_ble_eq_true rfl) ⟨Nat.zero_le _, Nat.zero_le _⟩ d_M_rest_JJI_3 ?_
  refine lv_if_ne (tgt := 36) hx hb d_M_rest_JJI_6 (by decide) (fun c1 => ?_) (fun c1 => ?_)
  · refine lv_iload hx hb d_M_rest_JJI_36 (lv_at hl 2 rfl) ?_
    refine pu_l (As := [.int x4]) (rest := []) ⟨hx, hb, hml, hown, hts⟩ (c_M_none_I l _ x4) pu_pre (gw_call (k := 1) hts tw_511 tw_512 tw_4 tw_513 (by decide +kernel) rfl rfl ⟨Nat.le_of_ble_eq_true rfl, Nat.le_of_ble_eq_true rfl⟩) rfl hl.1 rfl (Nat.le_of_ble_eq_true rfl) ⟨Nat.zero_le _, Nat.zero_le _⟩ d_M_rest_JJI_38 ?_
    exact pu_lret hx hb hr hlocks d_M_rest_JJI_41 (by exact Eq.symm (if_neg c1))
  · refine lv_lload_n hx hb d_M_rest_JJI_9 rfl (lv_at hl 1 rfl) ?_
    refine lv_iload hx hb d_M_rest_JJI_10 (lv_at hl 2 rfl) ?_
    refine pu_i (As := [.long x2, .int x4]) (rest := []) ⟨hx, hb, hml, hown, hts⟩ (c_M_isNone_JI l _ x2 x4) pu_pre (gw_call (k := 2) hts tw_498 tw_499 tw_4 tw_500 (by decide +kernel) rfl rfl ⟨Nat.le_of_ble_eq_true rfl, Nat.le_of_ble_eq_true rfl⟩) rfl hl.1 rfl (Nat.le_of_ble_eq_true rfl) ⟨Nat.zero_le _, Nat.zero_le _⟩ d_M_rest_JJI_12 ?_
    refine lv_if_ne (tgt := 36) hx hb d_M_rest_JJI_15 (by decide) (fun c2 => ?_) (fun c2 => ?_)
    · refine lv_iload hx hb d_M_rest_JJI_36 (lv_at hl 2 rfl) ?_
      refine pu_l (As := [.int x4]) (rest := []) ⟨hx, hb, hml, hown, hts⟩ (c_M_none_I l _ x4) pu_pre (gw_call (k := 1) hts tw_511 tw_512 tw_4 tw_513 (by decide +kernel) rfl rfl ⟨Nat.le_of_ble_eq_true rfl, Nat.le_of_ble_eq_true rfl⟩) rfl hl.1 rfl (Nat.le_of_ble_eq_true rfl) ⟨Nat.zero_le _, Nat.zero_le _⟩ d_M_rest_JJI_38 ?_
      exact pu_lret hx hb hr hlocks d_M_rest_JJI_41 (by exact Eq.symm (Eq.trans (if_pos c1) (if_neg c2)))
    · refine lv_lload_n hx hb d_M_rest_JJI_18 rfl (lv_at hl 0 rfl) ?_
      refine lv_iload hx hb d_M_rest_JJI_19 (lv_at hl 2 rfl) ?_
      refine pu_i (As := [.long x0, .int x4]) (rest := []) ⟨hx, hb, hml, hown, hts⟩ (c_M_isInfinite_JI l _ x0 x4) pu_pre (gw_call (k := 2) hts tw_516 tw_517 tw_4 tw_518 (by decide +kernel) rfl rfl ⟨Nat.le_of_ble_eq_true rfl, Nat.le_of_ble_eq_true rfl⟩) rfl hl.1 rfl (Nat.le_of_ble_eq_true rfl) ⟨Nat.zero_le _, Nat.zero_le _⟩ d_M_rest_JJI_21 ?_
      refine lv_if_ne (tgt := 36) hx hb d_M_rest_JJI_24 (by decide) (fun c3 => ?_) (fun c3 => ?_)
      · refine lv_iload hx hb d_M_rest_JJI_36 (lv_at hl 2 rfl) ?_
        refine pu_l (As := [.int x4]) (rest := []) ⟨hx, hb, hml, hown, hts⟩ (c_M_none_I l _ x4) pu_pre (gw_call (k := 1) hts tw_511 tw_512 tw_4 tw_513 (by decide +kernel) rfl rfl ⟨Nat.le_of_ble_eq_true rfl, Nat.le_of_ble_eq_true rfl⟩) rfl hl.1 rfl (Nat.le_of_ble_eq_true rfl) ⟨Nat.zero_le _, Nat.zero_le _⟩ d_M_rest_JJI_38 ?_
        exact pu_lret hx hb hr hlocks d_M_rest_JJI_41 (by exact Eq.symm (Eq.trans (if_pos c1) (Eq.trans (if_pos c2) (if_neg c3))))
      · refine lv_lload_n hx hb d_M_rest_JJI_27 rfl (lv_at hl 1 rfl) ?_
        refine lv_iload hx hb d_M_rest_JJI_28 (lv_at hl 2 rfl) ?_
        refine pu_i (As := [.long x2, .int x4]) (rest := []) ⟨hx, hb, hml, hown, hts⟩ (c_M_isZero_JI l _ x2 x4) pu_pre (gw_call (k := 2) hts tw_579 tw_580 tw_4 tw_581 (by decide +kernel) rfl rfl ⟨Nat.le_of_ble_eq_true rfl, Nat.le_of_ble_eq_true rfl⟩) rfl hl.1 rfl (Nat.le_of_ble_eq_true rfl) ⟨Nat.zero_le _, Nat.zero_le _⟩ d_M_rest_JJI_30 ?_
        refine lv_if_eq (tgt := 42) hx hb d_M_rest_JJI_33 (by decide) (fun c4 => ?_) (fun c4 => ?_)
        · refine lv_lload_n hx hb d_M_rest_JJI_42 rfl (lv_at hl 1 rfl) ?_
          refine lv_iload hx hb d_M_rest_JJI_43 (lv_at hl 2 rfl) ?_
          refine pu_i (As := [.long x2, .int x4]) (rest := []) ⟨hx, hb, hml, hown, hts⟩ (c_M_isInfinite_JI l _ x2 x4) pu_pre (gw_call (k := 2) hts tw_516 tw_517 tw_4 tw_518 (by decide +kernel) rfl rfl ⟨Nat.le_of_ble_eq_true rfl, Nat.le_of_ble_eq_true rfl⟩) rfl hl.1 rfl (Nat.le_of_ble_eq_true rfl) ⟨Nat.zero_le _, Nat.zero_le _⟩ d_M_rest_JJI_45 ?_
          refine lv_if_ne (tgt := 67) hx hb d_M_rest_JJI_48 (by decide) (fun c5 => ?_) (fun c5 => ?_)
          · refine lv_lload_n hx hb d_M_rest_JJI_67 rfl (lv_at hl 0 rfl) ?_
            exact pu_lret hx hb hr hlocks d_M_rest_JJI_68 (by exact Eq.symm (Eq.trans (if_pos c1) (Eq.trans (if_pos c2) (Eq.trans (if_pos c3) (Eq.trans (if_pos c4) (if_neg c5))))))
          · refine lv_lload_n hx hb d_M_rest_JJI_51 rfl (lv_at hl 0 rfl) ?_
            refine lv_iload hx hb d_M_rest_JJI_52 (lv_at hl 2 rfl) ?_
            refine pu_l (As := [.long x0, .int x4]) (rest := []) ⟨hx, hb, hml, hown, hts⟩ (c_M_size_JI l _ x0 x4) pu_pre (gw_call (k := 2) hts tw_501 tw_502 tw_4 tw_503 (by decide +kernel) rfl rfl ⟨Nat.le_of_ble_eq_true rfl, Nat.le_of_ble_eq_true rfl⟩) rfl hl.1 rfl (Nat.le_of_ble_eq_true rfl) ⟨Nat.zero_le _, Nat.zero_le _⟩ d_M_rest_JJI_54 ?_
            refine lv_lload_n hx hb d_M_rest_JJI_57 rfl (lv_at hl 1 rfl) ?_
            refine lv_iload hx hb d_M_rest_JJI_58 (lv_at hl 2 rfl) ?_
            refine pu_l (As := [.long x2, .int x4]) (rest := [.long (f_M_size_JI x0 x4)]) ⟨hx, hb, hml, hown, hts⟩ (c_M_size_JI l _ x2 x4) pu_pre (gw_call (k := 2) hts tw_501 tw_502 tw_4 tw_503 (by decide +kernel) rfl rfl ⟨Nat.le_of_ble_eq_true rfl, Nat.le_of_ble_eq_true rfl⟩) rfl hl.1 rfl (Nat.le_of_ble_eq_true rfl) ⟨Nat.zero_le _, Nat.zero_le _⟩ d_M_rest_JJI_60 ?_
            refine W.lcmp hx hb d_M_rest_JJI_63 ?_
            refine lv_if_ge (tgt := 69) hx hb d_M_rest_JJI_64 (by decide) (fun c6 => ?_) (fun c6 => ?_)
            · refine lv_lload_n hx hb d_M_rest_JJI_69 rfl (lv_at hl 0 rfl) ?_
              refine lv_iload hx hb d_M_rest_JJI_70 (lv_at hl 2 rfl) ?_
              refine pu_l (As := [.long x0, .int x4]) (rest := []) ⟨hx, hb, hml, hown, hts⟩ (c_M_whole_JI l _ t0 t1 t2 x0 x4 hk_x4) (pr_pre hRT) (gw_call (k := 2) hts tw_525 tw_526 tw_4 tw_527 (by decide +kernel) rfl rfl ⟨Nat.le_of_ble_eq_true rfl, Nat.le_of_ble_eq_true rfl⟩) rfl hl.1 rfl (Nat.le_of_ble_eq_true rfl) ⟨Nat.zero_le _, Nat.zero_le _⟩ d_M_rest_JJI_72 ?_
              refine lv_topl (fun v7 e7 => ?_)
              refine lv_lstore (lv' := [(5, .long v7), (0, .long x0), (2, .long x2), (4, .int x4)]) hx hb d_M_rest_JJI_75 hl (by decide) rfl (fun ls hl => ?_)
              refine lv_lload_n hx hb d_M_rest_JJI_77 rfl (lv_at hl 2 rfl) ?_
              refine lv_iload hx hb d_M_rest_JJI_78 (lv_at hl 3 rfl) ?_
              refine pu_l (As := [.long x2, .int x4]) (rest := []) ⟨hx, hb, hml, hown, hts⟩ (c_M_whole_JI l _ t0 t1 t2 x2 x4 hk_x4) (pr_pre hRT) (gw_call (k := 2) hts tw_525 tw_526 tw_4 tw_527 (by decide +kernel) rfl rfl ⟨Nat.le_of_ble_eq_true rfl, Nat.le_of_ble_eq_true rfl⟩) rfl hl.1 rfl (Nat.le_of_ble_eq_true rfl) ⟨Nat.zero_le _, Nat.zero_le _⟩ d_M_rest_JJI_80 ?_
              refine lv_topl (fun v8 e8 => ?_)
              refine lv_lstore (lv' := [(7, .long v8), (5, .long v7), (0, .long x0), (2, .long x2), (4, .int x4)]) hx hb d_M_rest_JJI_83 hl (by decide) rfl (fun ls hl => ?_)
              refine lv_lload_n hx hb d_M_rest_JJI_85 rfl (lv_at hl 2 rfl) ?_
              refine lv_iload hx hb d_M_rest_JJI_86 (lv_at hl 4 rfl) ?_
              refine pu_i (As := [.long x0, .int x4]) (rest := []) ⟨hx, hb, hml, hown, hts⟩ (c_M_power_JI l _ t0 t1 t2 x0 x4 hk_x4) (pr_pre hRT) (gw_call (k := 2) hts tw_530 tw_531 tw_4 tw_532 (by decide +kernel) rfl rfl ⟨Nat.le_of_ble_eq_true rfl, Nat.le_of_ble_eq_true rfl⟩) rfl hl.1 rfl (Nat.le_of_ble_eq_true rfl) ⟨Nat.zero_le _, Nat.zero_le _⟩ d_M_rest_JJI_88 ?_
              refine lv_lload_n hx hb d_M_rest_JJI_91 rfl (lv_at hl 3 rfl) ?_
              refine lv_iload hx hb d_M_rest_JJI_92 (lv_at hl 4 rfl) ?_
              refine pu_i (As := [.long x2, .int x4]) (rest := [.int (f_M_power_JI x0 x4)]) ⟨hx, hb, hml, hown, hts⟩ (c_M_power_JI l _ t0 t1 t2 x2 x4 hk_x4) (pr_pre hRT) (gw_call (k := 2) hts tw_530 tw_531 tw_4 tw_532 (by decide +kernel) rfl rfl ⟨Nat.le_of_ble_eq_true rfl, Nat.le_of_ble_eq_true rfl⟩) rfl hl.1 rfl (Nat.le_of_ble_eq_true rfl) ⟨Nat.zero_le _, Nat.zero_le _⟩ d_M_rest_JJI_94 ?_
              refine lv_isub hx hb d_M_rest_JJI_97 ?_
              refine lv_topi (fun v9 e9 => ?_)
              refine lv_istore (lv' := [(9, .int v9), (7, .long v8), (5, .long v7), (0, .long x0), (2, .long x2), (4, .int x4)]) hx hb d_M_rest_JJI_98 hl (by decide) rfl (fun ls hl => ?_)
              refine lv_iload hx hb d_M_rest_JJI_100 (lv_at hl 0 rfl) ?_
              refine lv_if_ge (tgt := 132) hx hb d_M_rest_JJI_102 (by decide) (fun c10 => ?_) (fun c10 => ?_)
              · refine lv_lload hx hb d_M_rest_JJI_132 (lv_at hl 2 rfl) ?_
                refine lv_lload hx hb d_M_rest_JJI_134 (lv_at hl 1 rfl) ?_
                refine lv_lrem hx hb d_M_rest_JJI_136 (by rw [e8]; exact rest_nz hk_x4 c4) ?_
                refine lv_topl (fun v11 e11 => ?_)
                refine lv_lstore (lv' := [(10, .long v11), (9, .int v9), (7, .long v8), (5, .long v7), (0, .long x0), (2, .long x2), (4, .int x4)]) hx hb d_M_rest_JJI_137 hl (by decide) rfl (fun ls hl => ?_)
                refine lv_iconst (v := 0) hx hb d_M_rest_JJI_139 (by decide) ?_
                refine lv_istore (lv' := [(12, .int (0 : Int32)), (10, .long v11), (9, .int v9), (7, .long v8), (5, .long v7), (0, .long x0), (2, .long x2), (4, .int x4)]) hx hb d_M_rest_JJI_140 hl (by decide) rfl (fun ls hl => ?_)
                exact k_M_rest_JJI_142 C0 hRT (v9.toNatClampNeg + 1) x0 x2 x4 v8 v9 v11 (0 : Int32) hk_x4 (by rw [e8]; exact rest_nz hk_x4 c4) fl_first ls (lv_sub hl [5, 6, 7, 3, 2, 1, 0] rfl) (by have qe7 := e7.symm; have qe8 := e8.symm; have qe9 := e9.symm; have qe11 := e11.symm; subst qe7 qe8 qe9 qe11; exact (Eq.trans (if_pos c1) (Eq.trans (if_pos c2) (Eq.trans (if_pos c3) (Eq.trans (if_pos c4) (Eq.trans (if_pos c5) (Eq.trans (if_pos c6) (if_pos c10))))))))
              · refine lv_lload_n hx hb d_M_rest_JJI_105 rfl (lv_at hl 3 rfl) ?_
                refine lv_iload hx hb d_M_rest_JJI_106 (lv_at hl 5 rfl) ?_
                refine pu_i (As := [.long x0, .int x4]) (rest := []) ⟨hx, hb, hml, hown, hts⟩ (c_M_minus_JI l _ x0 x4) pu_pre (gw_call (k := 2) hts tw_519 tw_520 tw_4 tw_521 (by decide +kernel) rfl rfl ⟨Nat.le_of_ble_eq_true rfl, Nat.le_of_ble_eq_true rfl⟩) rfl hl.1 rfl (Nat.le_of_ble_eq_true rfl) ⟨Nat.zero_le _, Nat.zero_le _⟩ d_M_rest_JJI_108 ?_
                refine lv_lload hx hb d_M_rest_JJI_111 (lv_at hl 2 rfl) ?_
                refine lv_lload hx hb d_M_rest_JJI_113 (lv_at hl 1 rfl) ?_
                refine lv_iload hx hb d_M_rest_JJI_115 (lv_at hl 0 rfl) ?_
                refine lv_ineg hx hb d_M_rest_JJI_117 ?_
                refine lv_lshl (v := j_shl v8 (-v9)) hx hb d_M_rest_JJI_118 rfl ?_
                refine lv_lrem hx hb d_M_rest_JJI_119 (absurd (by rw [e9]; exact rest_pw hk_x4 c6) c10) ?_
                refine lv_lload_n hx hb d_M_rest_JJI_120 rfl (lv_at hl 3 rfl) ?_
                refine lv_iload hx hb d_M_rest_JJI_121 (lv_at hl 5 rfl) ?_
                refine pu_i (As := [.long x0, .int x4]) (rest := [.long (v7 - v7 / (j_shl v8 (-v9)) * (j_shl v8 (-v9))), .int (f_M_minus_JI x0 x4)]) ⟨hx, hb, hml, hown, hts⟩ (c_M_power_JI l _ t0 t1 t2 x0 x4 hk_x4) (pr_pre hRT) (gw_call (k := 2) hts tw_530 tw_531 tw_4 tw_532 (by decide +kernel) rfl rfl ⟨Nat.le_of_ble_eq_true rfl, Nat.le_of_ble_eq_true rfl⟩) rfl hl.1 rfl (Nat.le_of_ble_eq_true rfl) ⟨Nat.zero_le _, Nat.zero_le _⟩ d_M_rest_JJI_123 ?_
                refine lv_iload hx hb d_M_rest_JJI_126 (lv_at hl 5 rfl) ?_
                refine pu_l (As := [.int (f_M_minus_JI x0 x4), .long (v7 - v7 / (j_shl v8 (-v9)) * (j_shl v8 (-v9))), .int (f_M_power_JI x0 x4), .int x4]) (rest := []) ⟨hx, hb, hml, hown, hts⟩ (c_M_exact_ZJII l _ t0 t1 t2 (f_M_minus_JI x0 x4) (v7 - v7 / (j_shl v8 (-v9)) * (j_shl v8 (-v9))) (f_M_power_JI x0 x4) x4 hk_x4) (pr_pre hRT) (gw_call (k := 4) hts tw_536 tw_537 tw_4 tw_538 (by decide +kernel) rfl rfl ⟨Nat.le_of_ble_eq_true rfl, Nat.le_of_ble_eq_true rfl⟩) rfl hl.1 rfl (Nat.le_of_ble_eq_true rfl) ⟨Nat.zero_le _, Nat.zero_le _⟩ d_M_rest_JJI_128 ?_
                exact pu_lret hx hb hr hlocks d_M_rest_JJI_131 (by have qe7 := e7.symm; have qe8 := e8.symm; have qe9 := e9.symm; subst qe7 qe8 qe9; exact Eq.symm (Eq.trans (if_pos c1) (Eq.trans (if_pos c2) (Eq.trans (if_pos c3) (Eq.trans (if_pos c4) (Eq.trans (if_pos c5) (Eq.trans (if_pos c6) (if_neg c10))))))))
            · refine lv_lload_n hx hb d_M_rest_JJI_67 rfl (lv_at hl 0 rfl) ?_
              exact pu_lret hx hb hr hlocks d_M_rest_JJI_68 (by exact Eq.symm (Eq.trans (if_pos c1) (Eq.trans (if_pos c2) (Eq.trans (if_pos c3) (Eq.trans (if_pos c4) (Eq.trans (if_pos c5) (if_neg c6)))))))
        · refine lv_iload hx hb d_M_rest_JJI_36 (lv_at hl 2 rfl) ?_
          refine pu_l (As := [.int x4]) (rest := []) ⟨hx, hb, hml, hown, hts⟩ (c_M_none_I l _ x4) pu_pre (gw_call (k := 1) hts tw_511 tw_512 tw_4 tw_513 (by decide +kernel) rfl rfl ⟨Nat.le_of_ble_eq_true rfl, Nat.le_of_ble_eq_true rfl⟩) rfl hl.1 rfl (Nat.le_of_ble_eq_true rfl) ⟨Nat.zero_le _, Nat.zero_le _⟩ d_M_rest_JJI_38 ?_
          exact pu_lret hx hb hr hlocks d_M_rest_JJI_41 (by exact Eq.symm (Eq.trans (if_pos c1) (Eq.trans (if_pos c2) (Eq.trans (if_pos c3) (if_neg c4)))))
-- ===== MotionLabModel.reckoned(IJJ)J
abbrev y_M_reckoned_IJJ : MethodName := ⟨"MotionLabModel", "reckoned", "(IJJ)J"⟩
abbrev b_M_reckoned_IJJ : ByteArray := prog_6_method_50_code
theorem d_M_reckoned_IJJ_0 : decode b_M_reckoned_IJJ 0 = .ok (.iload_n 0, 1) := by decide +kernel
theorem d_M_reckoned_IJJ_1 : decode b_M_reckoned_IJJ 1 = .ok (.bipush 8, 2) := by decide +kernel
theorem d_M_reckoned_IJJ_3 : decode b_M_reckoned_IJJ 3 = .ok (.if_icmp .lt 13, 3) := by decide +kernel
theorem d_M_reckoned_IJJ_6 : decode b_M_reckoned_IJJ 6 = .ok (.iload_n 0, 1) := by decide +kernel
theorem d_M_reckoned_IJJ_7 : decode b_M_reckoned_IJJ 7 = .ok (.bipush 12, 2) := by decide +kernel
theorem d_M_reckoned_IJJ_9 : decode b_M_reckoned_IJJ 9 = .ok (.if_icmp .gt 7, 3) := by decide +kernel
theorem d_M_reckoned_IJJ_12 : decode b_M_reckoned_IJJ 12 = .ok (.iconst 1, 1) := by decide +kernel
theorem d_M_reckoned_IJJ_13 : decode b_M_reckoned_IJJ 13 = .ok (.goto 4, 3) := by decide +kernel
theorem d_M_reckoned_IJJ_16 : decode b_M_reckoned_IJJ 16 = .ok (.iconst 0, 1) := by decide +kernel
theorem d_M_reckoned_IJJ_17 : decode b_M_reckoned_IJJ 17 = .ok (.istore 5, 2) := by decide +kernel
theorem d_M_reckoned_IJJ_19 : decode b_M_reckoned_IJJ 19 = .ok (.iload 5, 2) := by decide +kernel
theorem d_M_reckoned_IJJ_21 : decode b_M_reckoned_IJJ 21 = .ok (.iconst 1, 1) := by decide +kernel
theorem d_M_reckoned_IJJ_22 : decode b_M_reckoned_IJJ 22 = .ok (.if_icmp .ne 10, 3) := by decide +kernel
theorem d_M_reckoned_IJJ_25 : decode b_M_reckoned_IJJ 25 = .ok (.lload_n 1, 1) := by decide +kernel
theorem d_M_reckoned_IJJ_26 : decode b_M_reckoned_IJJ 26 = .ok (.invokestatic 194, 3) := by decide +kernel
theorem d_M_reckoned_IJJ_29 : decode b_M_reckoned_IJJ 29 = .ok (.goto 4, 3) := by decide +kernel
theorem d_M_reckoned_IJJ_32 : decode b_M_reckoned_IJJ 32 = .ok (.lload_n 1, 1) := by decide +kernel
theorem d_M_reckoned_IJJ_33 : decode b_M_reckoned_IJJ 33 = .ok (.lstore 6, 2) := by decide +kernel
theorem d_M_reckoned_IJJ_35 : decode b_M_reckoned_IJJ 35 = .ok (.iload 5, 2) := by decide +kernel
theorem d_M_reckoned_IJJ_37 : decode b_M_reckoned_IJJ 37 = .ok (.iconst 1, 1) := by decide +kernel
theorem d_M_reckoned_IJJ_38 : decode b_M_reckoned_IJJ 38 = .ok (.if_icmp .ne 10, 3) := by decide +kernel
theorem d_M_reckoned_IJJ_41 : decode b_M_reckoned_IJJ 41 = .ok (.lload_n 3, 1) := by decide +kernel
theorem d_M_reckoned_IJJ_42 : decode b_M_reckoned_IJJ 42 = .ok (.invokestatic 194, 3) := by decide +kernel
theorem d_M_reckoned_IJJ_45 : decode b_M_reckoned_IJJ 45 = .ok (.goto 4, 3) := by decide +kernel
theorem d_M_reckoned_IJJ_48 : decode b_M_reckoned_IJJ 48 = .ok (.lload_n 3, 1) := by decide +kernel
theorem d_M_reckoned_IJJ_49 : decode b_M_reckoned_IJJ 49 = .ok (.lstore 8, 2) := by decide +kernel
theorem d_M_reckoned_IJJ_51 : decode b_M_reckoned_IJJ 51 = .ok (.iload_n 0, 1) := by decide +kernel
theorem d_M_reckoned_IJJ_52 : decode b_M_reckoned_IJJ 52 = .ok (.tableswitch 169 0 12 #[68, 82, 96, 110, 124, 138, 147, 157, 68, 82, 96, 110, 124], 68) := by decide +kernel
theorem d_M_reckoned_IJJ_120 : decode b_M_reckoned_IJJ 120 = .ok (.lload 6, 2) := by decide +kernel
theorem d_M_reckoned_IJJ_122 : decode b_M_reckoned_IJJ 122 = .ok (.lload 8, 2) := by decide +kernel
theorem d_M_reckoned_IJJ_124 : decode b_M_reckoned_IJJ 124 = .ok (.iload 5, 2) := by decide +kernel
theorem d_M_reckoned_IJJ_126 : decode b_M_reckoned_IJJ 126 = .ok (.invokestatic 82, 3) := by decide +kernel
theorem d_M_reckoned_IJJ_129 : decode b_M_reckoned_IJJ 129 = .ok (.lstore 10, 2) := by decide +kernel
theorem d_M_reckoned_IJJ_131 : decode b_M_reckoned_IJJ 131 = .ok (.goto 108, 3) := by decide +kernel
theorem d_M_reckoned_IJJ_134 : decode b_M_reckoned_IJJ 134 = .ok (.lload 6, 2) := by decide +kernel
theorem d_M_reckoned_IJJ_136 : decode b_M_reckoned_IJJ 136 = .ok (.lload 8, 2) := by decide +kernel
theorem d_M_reckoned_IJJ_138 : decode b_M_reckoned_IJJ 138 = .ok (.iload 5, 2) := by decide +kernel
theorem d_M_reckoned_IJJ_140 : decode b_M_reckoned_IJJ 140 = .ok (.invokestatic 107, 3) := by decide +kernel
theorem d_M_reckoned_IJJ_143 : decode b_M_reckoned_IJJ 143 = .ok (.lstore 10, 2) := by decide +kernel
theorem d_M_reckoned_IJJ_145 : decode b_M_reckoned_IJJ 145 = .ok (.goto 94, 3) := by decide +kernel
theorem d_M_reckoned_IJJ_148 : decode b_M_reckoned_IJJ 148 = .ok (.lload 6, 2) := by decide +kernel
theorem d_M_reckoned_IJJ_150 : decode b_M_reckoned_IJJ 150 = .ok (.lload 8, 2) := by decide +kernel
theorem d_M_reckoned_IJJ_152 : decode b_M_reckoned_IJJ 152 = .ok (.iload 5, 2) := by decide +kernel
theorem d_M_reckoned_IJJ_154 : decode b_M_reckoned_IJJ 154 = .ok (.invokestatic 110, 3) := by decide +kernel
theorem d_M_reckoned_IJJ_157 : decode b_M_reckoned_IJJ 157 = .ok (.lstore 10, 2) := by decide +kernel
theorem d_M_reckoned_IJJ_159 : decode b_M_reckoned_IJJ 159 = .ok (.goto 80, 3) := by decide +kernel
theorem d_M_reckoned_IJJ_162 : decode b_M_reckoned_IJJ 162 = .ok (.lload 6, 2) := by decide +kernel
theorem d_M_reckoned_IJJ_164 : decode b_M_reckoned_IJJ 164 = .ok (.lload 8, 2) := by decide +kernel
theorem d_M_reckoned_IJJ_166 : decode b_M_reckoned_IJJ 166 = .ok (.iload 5, 2) := by decide +kernel
theorem d_M_reckoned_IJJ_168 : decode b_M_reckoned_IJJ 168 = .ok (.invokestatic 113, 3) := by decide +kernel
theorem d_M_reckoned_IJJ_171 : decode b_M_reckoned_IJJ 171 = .ok (.lstore 10, 2) := by decide +kernel
theorem d_M_reckoned_IJJ_173 : decode b_M_reckoned_IJJ 173 = .ok (.goto 66, 3) := by decide +kernel
theorem d_M_reckoned_IJJ_176 : decode b_M_reckoned_IJJ 176 = .ok (.lload 6, 2) := by decide +kernel
theorem d_M_reckoned_IJJ_178 : decode b_M_reckoned_IJJ 178 = .ok (.lload 8, 2) := by decide +kernel
theorem d_M_reckoned_IJJ_180 : decode b_M_reckoned_IJJ 180 = .ok (.iload 5, 2) := by decide +kernel
theorem d_M_reckoned_IJJ_182 : decode b_M_reckoned_IJJ 182 = .ok (.invokestatic 254, 3) := by decide +kernel
theorem d_M_reckoned_IJJ_185 : decode b_M_reckoned_IJJ 185 = .ok (.lstore 10, 2) := by decide +kernel
theorem d_M_reckoned_IJJ_187 : decode b_M_reckoned_IJJ 187 = .ok (.goto 52, 3) := by decide +kernel
theorem d_M_reckoned_IJJ_190 : decode b_M_reckoned_IJJ 190 = .ok (.lload_n 1, 1) := by decide +kernel
theorem d_M_reckoned_IJJ_191 : decode b_M_reckoned_IJJ 191 = .ok (.invokestatic 223, 3) := by decide +kernel
theorem d_M_reckoned_IJJ_194 : decode b_M_reckoned_IJJ 194 = .ok (.lstore 10, 2) := by decide +kernel
theorem d_M_reckoned_IJJ_196 : decode b_M_reckoned_IJJ 196 = .ok (.goto 43, 3) := by decide +kernel
theorem d_M_reckoned_IJJ_199 : decode b_M_reckoned_IJJ 199 = .ok (.lload_n 1, 1) := by decide +kernel
theorem d_M_reckoned_IJJ_200 : decode b_M_reckoned_IJJ 200 = .ok (.iconst 0, 1) := by decide +kernel
theorem d_M_reckoned_IJJ_201 : decode b_M_reckoned_IJJ 201 = .ok (.invokestatic 79, 3) := by decide +kernel
theorem d_M_reckoned_IJJ_204 : decode b_M_reckoned_IJJ 204 = .ok (.lstore 10, 2) := by decide +kernel
theorem d_M_reckoned_IJJ_206 : decode b_M_reckoned_IJJ 206 = .ok (.goto 33, 3) := by decide +kernel
theorem d_M_reckoned_IJJ_209 : decode b_M_reckoned_IJJ 209 = .ok (.lload_n 1, 1) := by decide +kernel
theorem d_M_reckoned_IJJ_210 : decode b_M_reckoned_IJJ 210 = .ok (.invokestatic 194, 3) := by decide +kernel
theorem d_M_reckoned_IJJ_213 : decode b_M_reckoned_IJJ 213 = .ok (.invokestatic 229, 3) := by decide +kernel
theorem d_M_reckoned_IJJ_216 : decode b_M_reckoned_IJJ 216 = .ok (.lstore 10, 2) := by decide +kernel
theorem d_M_reckoned_IJJ_218 : decode b_M_reckoned_IJJ 218 = .ok (.goto 21, 3) := by decide +kernel
theorem d_M_reckoned_IJJ_221 : decode b_M_reckoned_IJJ 221 = .ok (.lload_n 1, 1) := by decide +kernel
theorem d_M_reckoned_IJJ_222 : decode b_M_reckoned_IJJ 222 = .ok (.lload_n 3, 1) := by decide +kernel
theorem d_M_reckoned_IJJ_223 : decode b_M_reckoned_IJJ 223 = .ok (.iload_n 0, 1) := by decide +kernel
theorem d_M_reckoned_IJJ_224 : decode b_M_reckoned_IJJ 224 = .ok (.bipush 14, 2) := by decide +kernel
theorem d_M_reckoned_IJJ_226 : decode b_M_reckoned_IJJ 226 = .ok (.if_icmp .ne 7, 3) := by decide +kernel
theorem d_M_reckoned_IJJ_229 : decode b_M_reckoned_IJJ 229 = .ok (.iconst 1, 1) := by decide +kernel
theorem d_M_reckoned_IJJ_230 : decode b_M_reckoned_IJJ 230 = .ok (.goto 4, 3) := by decide +kernel
theorem d_M_reckoned_IJJ_233 : decode b_M_reckoned_IJJ 233 = .ok (.iconst 0, 1) := by decide +kernel
theorem d_M_reckoned_IJJ_234 : decode b_M_reckoned_IJJ 234 = .ok (.invokestatic 257, 3) := by decide +kernel
theorem d_M_reckoned_IJJ_237 : decode b_M_reckoned_IJJ 237 = .ok (.lstore 10, 2) := by decide +kernel
theorem d_M_reckoned_IJJ_239 : decode b_M_reckoned_IJJ 239 = .ok (.iload 5, 2) := by decide +kernel
theorem d_M_reckoned_IJJ_241 : decode b_M_reckoned_IJJ 241 = .ok (.iconst 1, 1) := by decide +kernel
theorem d_M_reckoned_IJJ_242 : decode b_M_reckoned_IJJ 242 = .ok (.if_icmp .ne 11, 3) := by decide +kernel
theorem d_M_reckoned_IJJ_245 : decode b_M_reckoned_IJJ 245 = .ok (.lload 10, 2) := by decide +kernel
theorem d_M_reckoned_IJJ_247 : decode b_M_reckoned_IJJ 247 = .ok (.invokestatic 229, 3) := by decide +kernel
theorem d_M_reckoned_IJJ_250 : decode b_M_reckoned_IJJ 250 = .ok (.goto 5, 3) := by decide +kernel
theorem d_M_reckoned_IJJ_253 : decode b_M_reckoned_IJJ 253 = .ok (.lload 10, 2) := by decide +kernel
theorem d_M_reckoned_IJJ_255 : decode b_M_reckoned_IJJ 255 = .ok (.lreturn, 1) := by decide +kernel
def f_M_reckoned_IJJ_239 (x5 : Int32) (x10 : Int64) : Int64 :=
  if x5 = (1 : Int32) then
    f_M_toDouble_J x10
  else
    x10
set_option maxHeartbeats 4000000 in
set_option maxRecDepth 100000 in
theorem k_M_reckoned_IJJ_239 {p : Program} {l : Launch} {e : Env} {s : State} {m : MethodId} {args : Array Value} {below : List Frame} {meth : Method} {c : Code} (C0 : pu_C p s m args meth c b_M_reckoned_IJJ 12 "MotionLabModel" (some .long) (gw y_M_reckoned_IJJ b_M_reckoned_IJJ 12 (some .long))) {t0 t1 t2 : Nat} (hRT : RTH t0 t1 t2 s s.heap) (x5 : Int32) (x10 : Int64) (ls : Array Slot) (hl : lv_has ls 12 [(5, .int x5), (10, .long x10)]) {w : Int64} (hw : w = f_M_reckoned_IJJ_239 x5 x10) : W p l e (headSpec (gw y_M_reckoned_IJJ b_M_reckoned_IJJ 12 (some .long)) ({ frames := 6, cells := 0, slots := 0, locals := 162 } : Room)).room s m args below meth c s.heap [] 0 0 (pu_Ql w below args s) (F0 m 239 ls []) := by
  obtain ⟨hx, hb, hml, hown, hts, hr, hlocks⟩ := id C0
  obtain ⟨hT0, hT1, hT2⟩ := id hRT
  refine lv_iload hx hb d_M_reckoned_IJJ_239 (lv_at hl 0 rfl) ?_
  refine lv_iconst (v := 1) hx hb d_M_reckoned_IJJ_241 (by decide) ?_
  refine lv_icmp_ne (tgt := 253) hx hb d_M_reckoned_IJJ_242 (by decide) (fun c1 => ?_) (fun c1 => ?_)
  · refine lv_lload hx hb d_M_reckoned_IJJ_253 (lv_at hl 1 rfl) ?_
    exact pu_lret hx hb hr hlocks d_M_reckoned_IJJ_255 (by exact Eq.symm (hw.trans (if_neg c1)))
  · refine lv_lload hx hb d_M_reckoned_IJJ_245 (lv_at hl 1 rfl) ?_
    refine pu_l (As := [.long x10]) (rest := []) ⟨hx, hb, hml, hown, hts⟩ (c_M_toDouble_J l _ t0 t1 t2 x10) (pr_pre hRT) (gw_call (k := 1) hts tw_570 tw_571 tw_4 tw_572 (by decide +kernel) rfl rfl ⟨Nat.le_of_ble_eq_true rfl, Nat.le_of_ble_eq_true rfl⟩) rfl hl.1 rfl (Nat.le_of_ble_eq_true rfl) ⟨Nat.zero_le _, Nat.zero_le _⟩ d_M_reckoned_IJJ_247 ?_
    refine lv_goto (tgt := 255) hx hb d_M_reckoned_IJJ_250 (by decide) ?_
    exact pu_lret hx hb hr hlocks d_M_reckoned_IJJ_255 (by exact Eq.symm (hw.trans (if_pos c1)))
def f_M_reckoned_IJJ_234 (x5 : Int32) (s0 : Int64) (s1 : Int64) (s2 : Int32) : Int64 :=
  let v1 : Int64 := f_M_end_JJZ s0 s1 s2
  f_M_reckoned_IJJ_239 x5 v1
set_option maxHeartbeats 4000000 in
set_option maxRecDepth 100000 in
theorem k_M_reckoned_IJJ_234 {p : Program} {l : Launch} {e : Env} {s : State} {m : MethodId} {args : Array Value} {below : List Frame} {meth : Method} {c : Code} (C0 : pu_C p s m args meth c b_M_reckoned_IJJ 12 "MotionLabModel" (some .long) (gw y_M_reckoned_IJJ b_M_reckoned_IJJ 12 (some .long))) {t0 t1 t2 : Nat} (hRT : RTH t0 t1 t2 s s.heap) (x5 : Int32) (s0 : Int64) (s1 : Int64) (s2 : Int32) (ls : Array Slot) (hl : lv_has ls 12 [(5, .int x5)]) {w : Int64} (hw : w = f_M_reckoned_IJJ_234 x5 s0 s1 s2) : W p l e (headSpec (gw y_M_reckoned_IJJ b_M_reckoned_IJJ 12 (some .long)) ({ frames := 6, cells := 0, slots := 0, locals := 162 } : Room)).room s m args below meth c s.heap [] 0 0 (pu_Ql w below args s) (F0 m 234 ls [.int s2, .long s1, .long s0]) := by
  obtain ⟨hx, hb, hml, hown, hts, hr, hlocks⟩ := id C0
  obtain ⟨hT0, hT1, hT2⟩ := id hRT
  refine pu_l (As := [.long s0, .long s1, .int s2]) (rest := []) ⟨hx, hb, hml, hown, hts⟩ (c_M_end_JJZ l _ s0 s1 s2) pu_pre (gw_call (k := 3) hts tw_668 tw_669 tw_4 tw_670 (by decide +kernel) rfl rfl ⟨Nat.le_of_ble_eq_true rfl, Nat.le_of_ble_eq_true rfl⟩) rfl hl.1 rfl (Nat.le_of_ble_eq_true rfl) ⟨Nat.zero_le _, Nat.zero_le _⟩ d_M_reckoned_IJJ_234 ?_
  refine lv_topl (fun v1 e1 => ?_)
  refine lv_lstore (lv' := [(10, .long v1), (5, .int x5)]) hx hb d_M_reckoned_IJJ_237 hl (by decide) rfl (fun ls hl => ?_)
  exact k_M_reckoned_IJJ_239 C0 hRT x5 v1 ls (lv_sub hl [1, 0] rfl) (by have qe1 := e1.symm; subst qe1; exact (hw.trans rfl))
def f_M_reckoned_IJJ_49 (x0 : Int32) (x1 : Int64) (x3 : Int64) (x5 : Int32) (x6 : Int64) (s0 : Int64) : Int64 :=
  if x0 = 0 then
    let v2 : Int64 := f_M_add_JJI x6 s0 x5
    f_M_reckoned_IJJ_239 x5 v2
  else
    if x0 = 1 then
      let v4 : Int64 := f_M_subtract_JJI x6 s0 x5
      f_M_reckoned_IJJ_239 x5 v4
    else
      if x0 = 2 then
        let v6 : Int64 := f_M_multiply_JJI x6 s0 x5
        f_M_reckoned_IJJ_239 x5 v6
      else
        if x0 = 3 then
          let v8 : Int64 := f_M_divide_JJI x6 s0 x5
          f_M_reckoned_IJJ_239 x5 v8
        else
          if x0 = 4 then
            let v10 : Int64 := f_M_rest_JJI x6 s0 x5
            f_M_reckoned_IJJ_239 x5 v10
          else
            if x0 = 5 then
              let v12 : Int64 := f_M_root_J x1
              f_M_reckoned_IJJ_239 x5 v12
            else
              if x0 = 6 then
                let v14 : Int64 := f_M_turned_JI x1 (0 : Int32)
                f_M_reckoned_IJJ_239 x5 v14
              else
                if x0 = 7 then
                  let v16 : Int64 := f_M_toDouble_J (f_M_toFloat_J x1)
                  f_M_reckoned_IJJ_239 x5 v16
                else
                  if x0 = 8 then
                    let v18 : Int64 := f_M_add_JJI x6 s0 x5
                    f_M_reckoned_IJJ_239 x5 v18
                  else
                    if x0 = 9 then
                      let v20 : Int64 := f_M_subtract_JJI x6 s0 x5
                      f_M_reckoned_IJJ_239 x5 v20
                    else
                      if x0 = 10 then
                        let v22 : Int64 := f_M_multiply_JJI x6 s0 x5
                        f_M_reckoned_IJJ_239 x5 v22
                      else
                        if x0 = 11 then
                          let v24 : Int64 := f_M_divide_JJI x6 s0 x5
                          f_M_reckoned_IJJ_239 x5 v24
                        else
                          if x0 = 12 then
                            let v26 : Int64 := f_M_rest_JJI x6 s0 x5
                            f_M_reckoned_IJJ_239 x5 v26
                          else
                            if x0 = (14 : Int32) then
                              f_M_reckoned_IJJ_234 x5 x1 x3 (1 : Int32)
                            else
                              f_M_reckoned_IJJ_234 x5 x1 x3 (0 : Int32)
set_option maxHeartbeats 4000000 in
set_option maxRecDepth 100000 in
theorem k_M_reckoned_IJJ_49 {p : Program} {l : Launch} {e : Env} {s : State} {m : MethodId} {args : Array Value} {below : List Frame} {meth : Method} {c : Code} (C0 : pu_C p s m args meth c b_M_reckoned_IJJ 12 "MotionLabModel" (some .long) (gw y_M_reckoned_IJJ b_M_reckoned_IJJ 12 (some .long))) {t0 t1 t2 : Nat} (hRT : RTH t0 t1 t2 s s.heap) (x0 : Int32) (x1 : Int64) (x3 : Int64) (x5 : Int32) (x6 : Int64) (s0 : Int64) (hk_x5 : vp_in x5 2) (ls : Array Slot) (hl : lv_has ls 12 [(0, .int x0), (1, .long x1), (3, .long x3), (5, .int x5), (6, .long x6)]) {w : Int64} (hw : w = f_M_reckoned_IJJ_49 x0 x1 x3 x5 x6 s0) : W p l e (headSpec (gw y_M_reckoned_IJJ b_M_reckoned_IJJ 12 (some .long)) ({ frames := 6, cells := 0, slots := 0, locals := 162 } : Room)).room s m args below meth c s.heap [] 0 0 (pu_Ql w below args s) (F0 m 49 ls [.long s0]) := by
  obtain ⟨hx, hb, hml, hown, hts, hr, hlocks⟩ := id C0
  obtain ⟨hT0, hT1, hT2⟩ := id hRT
  refine lv_lstore (lv' := [(8, .long s0), (0, .int x0), (1, .long x1), (3, .long x3), (5, .int x5), (6, .long x6)]) hx hb d_M_reckoned_IJJ_49 hl (by decide) rfl (fun ls hl => ?_)
  refine lv_iload_n hx hb d_M_reckoned_IJJ_51 rfl (lv_at hl 1 rfl) ?_
  by_cases c1 : x0 = 0
  · refine lv_tableIn (off := 68) (tgt := 120) hx hb d_M_reckoned_IJJ_52 (by rw [c1]; decide) (by rw [c1]; decide) (by rw [c1]; rfl) (by decide) ?_
    refine lv_lload hx hb d_M_reckoned_IJJ_120 (lv_at hl 5 rfl) ?_
    refine lv_lload hx hb d_M_reckoned_IJJ_122 (lv_at hl 0 rfl) ?_
    refine lv_iload hx hb d_M_reckoned_IJJ_124 (lv_at hl 4 rfl) ?_
    refine pu_l (As := [.long x6, .long s0, .int x5]) (rest := []) ⟨hx, hb, hml, hown, hts⟩ (c_M_add_JJI l _ t0 t1 t2 x6 s0 x5 hk_x5) (pr_pre hRT) (gw_call (k := 3) hts tw_597 tw_598 tw_4 tw_599 (by decide +kernel) rfl rfl ⟨Nat.le_of_ble_eq_true rfl, Nat.le_of_ble_eq_true rfl⟩) rfl hl.1 rfl (Nat.le_of_ble_eq_true rfl) ⟨Nat.zero_le _, Nat.zero_le _⟩ d_M_reckoned_IJJ_126 ?_
    refine lv_topl (fun v2 e2 => ?_)
    refine lv_lstore (lv' := [(10, .long v2), (8, .long s0), (0, .int x0), (1, .long x1), (3, .long x3), (5, .int x5), (6, .long x6)]) hx hb d_M_reckoned_IJJ_129 hl (by decide) rfl (fun ls hl => ?_)
    refine lv_goto (tgt := 239) hx hb d_M_reckoned_IJJ_131 (by decide) ?_
    exact k_M_reckoned_IJJ_239 C0 hRT x5 v2 ls (lv_sub hl [5, 0] rfl) (by have qe2 := e2.symm; subst qe2; exact (hw.trans (if_pos c1)))
  · skip
    by_cases c3 : x0 = 1
    · refine lv_tableIn (off := 82) (tgt := 134) hx hb d_M_reckoned_IJJ_52 (by rw [c3]; decide) (by rw [c3]; decide) (by rw [c3]; rfl) (by decide) ?_
      refine lv_lload hx hb d_M_reckoned_IJJ_134 (lv_at hl 5 rfl) ?_
      refine lv_lload hx hb d_M_reckoned_IJJ_136 (lv_at hl 0 rfl) ?_
      refine lv_iload hx hb d_M_reckoned_IJJ_138 (lv_at hl 4 rfl) ?_
      refine pu_l (As := [.long x6, .long s0, .int x5]) (rest := []) ⟨hx, hb, hml, hown, hts⟩ (c_M_subtract_JJI l _ t0 t1 t2 x6 s0 x5 hk_x5) (pr_pre hRT) (gw_call (k := 3) hts tw_591 tw_592 tw_4 tw_593 (by decide +kernel) rfl rfl ⟨Nat.le_of_ble_eq_true rfl, Nat.le_of_ble_eq_true rfl⟩) rfl hl.1 rfl (Nat.le_of_ble_eq_true rfl) ⟨Nat.zero_le _, Nat.zero_le _⟩ d_M_reckoned_IJJ_140 ?_
      refine lv_topl (fun v4 e4 => ?_)
      refine lv_lstore (lv' := [(10, .long v4), (8, .long s0), (0, .int x0), (1, .long x1), (3, .long x3), (5, .int x5), (6, .long x6)]) hx hb d_M_reckoned_IJJ_143 hl (by decide) rfl (fun ls hl => ?_)
      refine lv_goto (tgt := 239) hx hb d_M_reckoned_IJJ_145 (by decide) ?_
      exact k_M_reckoned_IJJ_239 C0 hRT x5 v4 ls (lv_sub hl [5, 0] rfl) (by have qe4 := e4.symm; subst qe4; exact (hw.trans (Eq.trans (if_neg c1) (if_pos c3))))
    · skip
      by_cases c5 : x0 = 2
      · refine lv_tableIn (off := 96) (tgt := 148) hx hb d_M_reckoned_IJJ_52 (by rw [c5]; decide) (by rw [c5]; decide) (by rw [c5]; rfl) (by decide) ?_
        refine lv_lload hx hb d_M_reckoned_IJJ_148 (lv_at hl 5 rfl) ?_
        refine lv_lload hx hb d_M_reckoned_IJJ_150 (lv_at hl 0 rfl) ?_
        refine lv_iload hx hb d_M_reckoned_IJJ_152 (lv_at hl 4 rfl) ?_
        refine pu_l (As := [.long x6, .long s0, .int x5]) (rest := []) ⟨hx, hb, hml, hown, hts⟩ (c_M_multiply_JJI l _ t0 t1 t2 x6 s0 x5 hk_x5) (pr_pre hRT) (gw_call (k := 3) hts tw_576 tw_577 tw_4 tw_578 (by decide +kernel) rfl rfl ⟨Nat.le_of_ble_eq_true rfl, Nat.le_of_ble_eq_true rfl⟩) rfl hl.1 rfl (Nat.le_of_ble_eq_true rfl) ⟨Nat.zero_le _, Nat.zero_le _⟩ d_M_reckoned_IJJ_154 ?_
        refine lv_topl (fun v6 e6 => ?_)
        refine lv_lstore (lv' := [(10, .long v6), (8, .long s0), (0, .int x0), (1, .long x1), (3, .long x3), (5, .int x5), (6, .long x6)]) hx hb d_M_reckoned_IJJ_157 hl (by decide) rfl (fun ls hl => ?_)
        refine lv_goto (tgt := 239) hx hb d_M_reckoned_IJJ_159 (by decide) ?_
        exact k_M_reckoned_IJJ_239 C0 hRT x5 v6 ls (lv_sub hl [5, 0] rfl) (by have qe6 := e6.symm; subst qe6; exact (hw.trans (Eq.trans (if_neg c1) (Eq.trans (if_neg c3) (if_pos c5)))))
      · skip
        by_cases c7 : x0 = 3
        · refine lv_tableIn (off := 110) (tgt := 162) hx hb d_M_reckoned_IJJ_52 (by rw [c7]; decide) (by rw [c7]; decide) (by rw [c7]; rfl) (by decide) ?_
          refine lv_lload hx hb d_M_reckoned_IJJ_162 (lv_at hl 5 rfl) ?_
          refine lv_lload hx hb d_M_reckoned_IJJ_164 (lv_at hl 0 rfl) ?_
          refine lv_iload hx hb d_M_reckoned_IJJ_166 (lv_at hl 4 rfl) ?_
          refine pu_l (As := [.long x6, .long s0, .int x5]) (rest := []) ⟨hx, hb, hml, hown, hts⟩ (c_M_divide_JJI l _ t0 t1 t2 x6 s0 x5 hk_x5) (pr_pre hRT) (gw_call (k := 3) hts tw_627 tw_628 tw_4 tw_629 (by decide +kernel) rfl rfl ⟨Nat.le_of_ble_eq_true rfl, Nat.le_of_ble_eq_true rfl⟩) rfl hl.1 rfl (Nat.le_of_ble_eq_true rfl) ⟨Nat.zero_le _, Nat.zero_le _⟩ d_M_reckoned_IJJ_168 ?_
          refine lv_topl (fun v8 e8 => ?_)
          refine lv_lstore (lv' := [(10, .long v8), (8, .long s0), (0, .int x0), (1, .long x1), (3, .long x3), (5, .int x5), (6, .long x6)]) hx hb d_M_reckoned_IJJ_171 hl (by decide) rfl (fun ls hl => ?_)
          refine lv_goto (tgt := 239) hx hb d_M_reckoned_IJJ_173 (by decide) ?_
          exact k_M_reckoned_IJJ_239 C0 hRT x5 v8 ls (lv_sub hl [5, 0] rfl) (by have qe8 := e8.symm; subst qe8; exact (hw.trans (Eq.trans (if_neg c1) (Eq.trans (if_neg c3) (Eq.trans (if_neg c5) (if_pos c7))))))
        · skip
          by_cases c9 : x0 = 4
          · refine lv_tableIn (off := 124) (tgt := 176) hx hb d_M_reckoned_IJJ_52 (by rw [c9]; decide) (by rw [c9]; decide) (by rw [c9]; rfl) (by decide) ?_
            refine lv_lload hx hb d_M_reckoned_IJJ_176 (lv_at hl 5 rfl) ?_
            refine lv_lload hx hb d_M_reckoned_IJJ_178 (lv_at hl 0 rfl) ?_
            refine lv_iload hx hb d_M_reckoned_IJJ_180 (lv_at hl 4 rfl) ?_
            refine pu_l (As := [.long x6, .long s0, .int x5]) (rest := []) ⟨hx, hb, hml, hown, hts⟩ (c_M_rest_JJI l _ t0 t1 t2 x6 s0 x5 hk_x5) (pr_pre hRT) (gw_call (k := 3) hts tw_665 tw_666 tw_4 tw_667 (by decide +kernel) rfl rfl ⟨Nat.le_of_ble_eq_true rfl, Nat.le_of_ble_eq_true rfl⟩) rfl hl.1 rfl (Nat.le_of_ble_eq_true rfl) ⟨Nat.zero_le _, Nat.zero_le _⟩ d_M_reckoned_IJJ_182 ?_
            refine lv_topl (fun v10 e10 => ?_)
            refine lv_lstore (lv' := [(10, .long v10), (8, .long s0), (0, .int x0), (1, .long x1), (3, .long x3), (5, .int x5), (6, .long x6)]) hx hb d_M_reckoned_IJJ_185 hl (by decide) rfl (fun ls hl => ?_)
            refine lv_goto (tgt := 239) hx hb d_M_reckoned_IJJ_187 (by decide) ?_
            exact k_M_reckoned_IJJ_239 C0 hRT x5 v10 ls (lv_sub hl [5, 0] rfl) (by have qe10 := e10.symm; subst qe10; exact (hw.trans (Eq.trans (if_neg c1) (Eq.trans (if_neg c3) (Eq.trans (if_neg c5) (Eq.trans (if_neg c7) (if_pos c9)))))))
          · skip
            by_cases c11 : x0 = 5
            · refine lv_tableIn (off := 138) (tgt := 190) hx hb d_M_reckoned_IJJ_52 (by rw [c11]; decide) (by rw [c11]; decide) (by rw [c11]; rfl) (by decide) ?_
              refine lv_lload_n hx hb d_M_reckoned_IJJ_190 rfl (lv_at hl 2 rfl) ?_
              refine pu_l (As := [.long x1]) (rest := []) ⟨hx, hb, hml, hown, hts⟩ (c_M_root_J l _ t0 t1 t2 x1) (pr_pre hRT) (gw_call (k := 1) hts tw_614 tw_615 tw_4 tw_616 (by decide +kernel) rfl rfl ⟨Nat.le_of_ble_eq_true rfl, Nat.le_of_ble_eq_true rfl⟩) rfl hl.1 rfl (Nat.le_of_ble_eq_true rfl) ⟨Nat.zero_le _, Nat.zero_le _⟩ d_M_reckoned_IJJ_191 ?_
              refine lv_topl (fun v12 e12 => ?_)
              refine lv_lstore (lv' := [(10, .long v12), (8, .long s0), (0, .int x0), (1, .long x1), (3, .long x3), (5, .int x5), (6, .long x6)]) hx hb d_M_reckoned_IJJ_194 hl (by decide) rfl (fun ls hl => ?_)
              refine lv_goto (tgt := 239) hx hb d_M_reckoned_IJJ_196 (by decide) ?_
              exact k_M_reckoned_IJJ_239 C0 hRT x5 v12 ls (lv_sub hl [5, 0] rfl) (by have qe12 := e12.symm; subst qe12; exact (hw.trans (Eq.trans (if_neg c1) (Eq.trans (if_neg c3) (Eq.trans (if_neg c5) (Eq.trans (if_neg c7) (Eq.trans (if_neg c9) (if_pos c11))))))))
            · skip
              by_cases c13 : x0 = 6
              · refine lv_tableIn (off := 147) (tgt := 199) hx hb d_M_reckoned_IJJ_52 (by rw [c13]; decide) (by rw [c13]; decide) (by rw [c13]; rfl) (by decide) ?_
                refine lv_lload_n hx hb d_M_reckoned_IJJ_199 rfl (lv_at hl 2 rfl) ?_
                refine lv_iconst (v := 0) hx hb d_M_reckoned_IJJ_200 (by decide) ?_
                refine pu_l (As := [.long x1, .int (0 : Int32)]) (rest := []) ⟨hx, hb, hml, hown, hts⟩ (c_M_turned_JI l _ x1 (0 : Int32)) pu_pre (gw_call (k := 2) hts tw_594 tw_595 tw_4 tw_596 (by decide +kernel) rfl rfl ⟨Nat.le_of_ble_eq_true rfl, Nat.le_of_ble_eq_true rfl⟩) rfl hl.1 rfl (Nat.le_of_ble_eq_true rfl) ⟨Nat.zero_le _, Nat.zero_le _⟩ d_M_reckoned_IJJ_201 ?_
                refine lv_topl (fun v14 e14 => ?_)
                refine lv_lstore (lv' := [(10, .long v14), (8, .long s0), (0, .int x0), (1, .long x1), (3, .long x3), (5, .int x5), (6, .long x6)]) hx hb d_M_reckoned_IJJ_204 hl (by decide) rfl (fun ls hl => ?_)
                refine lv_goto (tgt := 239) hx hb d_M_reckoned_IJJ_206 (by decide) ?_
                exact k_M_reckoned_IJJ_239 C0 hRT x5 v14 ls (lv_sub hl [5, 0] rfl) (by have qe14 := e14.symm; subst qe14; exact (hw.trans (Eq.trans (if_neg c1) (Eq.trans (if_neg c3) (Eq.trans (if_neg c5) (Eq.trans (if_neg c7) (Eq.trans (if_neg c9) (Eq.trans (if_neg c11) (if_pos c13)))))))))
              · skip
                by_cases c15 : x0 = 7
                · refine lv_tableIn (off := 157) (tgt := 209) hx hb d_M_reckoned_IJJ_52 (by rw [c15]; decide) (by rw [c15]; decide) (by rw [c15]; rfl) (by decide) ?_
                  refine lv_lload_n hx hb d_M_reckoned_IJJ_209 rfl (lv_at hl 2 rfl) ?_
                  refine pu_l (As := [.long x1]) (rest := []) ⟨hx, hb, hml, hown, hts⟩ (c_M_toFloat_J l _ t0 t1 t2 x1) (pr_pre hRT) (gw_call (k := 1) hts tw_492 tw_493 tw_4 tw_494 (by decide +kernel) rfl rfl ⟨Nat.le_of_ble_eq_true rfl, Nat.le_of_ble_eq_true rfl⟩) rfl hl.1 rfl (Nat.le_of_ble_eq_true rfl) ⟨Nat.zero_le _, Nat.zero_le _⟩ d_M_reckoned_IJJ_210 ?_
                  refine pu_l (As := [.long (f_M_toFloat_J x1)]) (rest := []) ⟨hx, hb, hml, hown, hts⟩ (c_M_toDouble_J l _ t0 t1 t2 (f_M_toFloat_J x1)) (pr_pre hRT) (gw_call (k := 1) hts tw_570 tw_571 tw_4 tw_572 (by decide +kernel) rfl rfl ⟨Nat.le_of_ble_eq_true rfl, Nat.le_of_ble_eq_true rfl⟩) rfl hl.1 rfl (Nat.le_of_ble_eq_true rfl) ⟨Nat.zero_le _, Nat.zero_le _⟩ d_M_reckoned_IJJ_213 ?_
                  refine lv_topl (fun v16 e16 => ?_)
                  refine lv_lstore (lv' := [(10, .long v16), (8, .long s0), (0, .int x0), (1, .long x1), (3, .long x3), (5, .int x5), (6, .long x6)]) hx hb d_M_reckoned_IJJ_216 hl (by decide) rfl (fun ls hl => ?_)
                  refine lv_goto (tgt := 239) hx hb d_M_reckoned_IJJ_218 (by decide) ?_
                  exact k_M_reckoned_IJJ_239 C0 hRT x5 v16 ls (lv_sub hl [5, 0] rfl) (by have qe16 := e16.symm; subst qe16; exact (hw.trans (Eq.trans (if_neg c1) (Eq.trans (if_neg c3) (Eq.trans (if_neg c5) (Eq.trans (if_neg c7) (Eq.trans (if_neg c9) (Eq.trans (if_neg c11) (Eq.trans (if_neg c13) (if_pos c15))))))))))
                · skip
                  by_cases c17 : x0 = 8
                  · refine lv_tableIn (off := 68) (tgt := 120) hx hb d_M_reckoned_IJJ_52 (by rw [c17]; decide) (by rw [c17]; decide) (by rw [c17]; rfl) (by decide) ?_
                    refine lv_lload hx hb d_M_reckoned_IJJ_120 (lv_at hl 5 rfl) ?_
                    refine lv_lload hx hb d_M_reckoned_IJJ_122 (lv_at hl 0 rfl) ?_
                    refine lv_iload hx hb d_M_reckoned_IJJ_124 (lv_at hl 4 rfl) ?_
                    refine pu_l (As := [.long x6, .long s0, .int x5]) (rest := []) ⟨hx, hb, hml, hown, hts⟩ (c_M_add_JJI l _ t0 t1 t2 x6 s0 x5 hk_x5) (pr_pre hRT) (gw_call (k := 3) hts tw_597 tw_598 tw_4 tw_599 (by decide +kernel) rfl rfl ⟨Nat.le_of_ble_eq_true rfl, Nat.le_of_ble_eq_true rfl⟩) rfl hl.1 rfl (Nat.le_of_ble_eq_true rfl) ⟨Nat.zero_le _, Nat.zero_le _⟩ d_M_reckoned_IJJ_126 ?_
                    refine lv_topl (fun v18 e18 => ?_)
                    refine lv_lstore (lv' := [(10, .long v18), (8, .long s0), (0, .int x0), (1, .long x1), (3, .long x3), (5, .int x5), (6, .long x6)]) hx hb d_M_reckoned_IJJ_129 hl (by decide) rfl (fun ls hl => ?_)
                    refine lv_goto (tgt := 239) hx hb d_M_reckoned_IJJ_131 (by decide) ?_
                    exact k_M_reckoned_IJJ_239 C0 hRT x5 v18 ls (lv_sub hl [5, 0] rfl) (by have qe18 := e18.symm; subst qe18; exact (hw.trans (Eq.trans (if_neg c1) (Eq.trans (if_neg c3) (Eq.trans (if_neg c5) (Eq.trans (if_neg c7) (Eq.trans (if_neg c9) (Eq.trans (if_neg c11) (Eq.trans (if_neg c13) (Eq.trans (if_neg c15) (if_pos c17)))))))))))
                  · skip
                    by_cases c19 : x0 = 9
                    · refine lv_tableIn (off := 82) (tgt := 134) hx hb d_M_reckoned_IJJ_52 (by rw [c19]; decide) (by rw [c19]; decide) (by rw [c19]; rfl) (by decide) ?_
                      refine lv_lload hx hb d_M_reckoned_IJJ_134 (lv_at hl 5 rfl) ?_
                      refine lv_lload hx hb d_M_reckoned_IJJ_136 (lv_at hl 0 rfl) ?_
                      refine lv_iload hx hb d_M_reckoned_IJJ_138 (lv_at hl 4 rfl) ?_
                      refine pu_l (As := [.long x6, .long s0, .int x5]) (rest := []) ⟨hx, hb, hml, hown, hts⟩ (c_M_subtract_JJI l _ t0 t1 t2 x6 s0 x5 hk_x5) (pr_pre hRT) (gw_call (k := 3) hts tw_591 tw_592 tw_4 tw_593 (by decide +kernel) rfl rfl ⟨Nat.le_of_ble_eq_true rfl, Nat.le_of_ble_eq_true rfl⟩) rfl hl.1 rfl (Nat.le_of_ble_eq_true rfl) ⟨Nat.zero_le _, Nat.zero_le _⟩ d_M_reckoned_IJJ_140 ?_
                      refine lv_topl (fun v20 e20 => ?_)
                      refine lv_lstore (lv' := [(10, .long v20), (8, .long s0), (0, .int x0), (1, .long x1), (3, .long x3), (5, .int x5), (6, .long x6)]) hx hb d_M_reckoned_IJJ_143 hl (by decide) rfl (fun ls hl => ?_)
                      refine lv_goto (tgt := 239) hx hb d_M_reckoned_IJJ_145 (by decide) ?_
                      exact k_M_reckoned_IJJ_239 C0 hRT x5 v20 ls (lv_sub hl [5, 0] rfl) (by have qe20 := e20.symm; subst qe20; exact (hw.trans (Eq.trans (if_neg c1) (Eq.trans (if_neg c3) (Eq.trans (if_neg c5) (Eq.trans (if_neg c7) (Eq.trans (if_neg c9) (Eq.trans (if_neg c11) (Eq.trans (if_neg c13) (Eq.trans (if_neg c15) (Eq.trans (if_neg c17) (if_pos c19))))))))))))
                    · skip
                      by_cases c21 : x0 = 10
                      · refine lv_tableIn (off := 96) (tgt := 148) hx hb d_M_reckoned_IJJ_52 (by rw [c21]; decide) (by rw [c21]; decide) (by rw [c21]; rfl) (by decide) ?_
                        refine lv_lload hx hb d_M_reckoned_IJJ_148 (lv_at hl 5 rfl) ?_
                        refine lv_lload hx hb d_M_reckoned_IJJ_150 (lv_at hl 0 rfl) ?_
                        refine lv_iload hx hb d_M_reckoned_IJJ_152 (lv_at hl 4 rfl) ?_
                        refine pu_l (As := [.long x6, .long s0, .int x5]) (rest := []) ⟨hx, hb, hml, hown, hts⟩ (c_M_multiply_JJI l _ t0 t1 t2 x6 s0 x5 hk_x5) (pr_pre hRT) (gw_call (k := 3) hts tw_576 tw_577 tw_4 tw_578 (by decide +kernel) rfl rfl ⟨Nat.le_of_ble_eq_true rfl, Nat.le_of_ble_eq_true rfl⟩) rfl hl.1 rfl (Nat.le_of_ble_eq_true rfl) ⟨Nat.zero_le _, Nat.zero_le _⟩ d_M_reckoned_IJJ_154 ?_
                        refine lv_topl (fun v22 e22 => ?_)
                        refine lv_lstore (lv' := [(10, .long v22), (8, .long s0), (0, .int x0), (1, .long x1), (3, .long x3), (5, .int x5), (6, .long x6)]) hx hb d_M_reckoned_IJJ_157 hl (by decide) rfl (fun ls hl => ?_)
                        refine lv_goto (tgt := 239) hx hb d_M_reckoned_IJJ_159 (by decide) ?_
                        exact k_M_reckoned_IJJ_239 C0 hRT x5 v22 ls (lv_sub hl [5, 0] rfl) (by have qe22 := e22.symm; subst qe22; exact (hw.trans (Eq.trans (if_neg c1) (Eq.trans (if_neg c3) (Eq.trans (if_neg c5) (Eq.trans (if_neg c7) (Eq.trans (if_neg c9) (Eq.trans (if_neg c11) (Eq.trans (if_neg c13) (Eq.trans (if_neg c15) (Eq.trans (if_neg c17) (Eq.trans (if_neg c19) (if_pos c21)))))))))))))
                      · skip
                        by_cases c23 : x0 = 11
                        · refine lv_tableIn (off := 110) (tgt := 162) hx hb d_M_reckoned_IJJ_52 (by rw [c23]; decide) (by rw [c23]; decide) (by rw [c23]; rfl) (by decide) ?_
                          refine lv_lload hx hb d_M_reckoned_IJJ_162 (lv_at hl 5 rfl) ?_
                          refine lv_lload hx hb d_M_reckoned_IJJ_164 (lv_at hl 0 rfl) ?_
                          refine lv_iload hx hb d_M_reckoned_IJJ_166 (lv_at hl 4 rfl) ?_
                          refine pu_l (As := [.long x6, .long s0, .int x5]) (rest := []) ⟨hx, hb, hml, hown, hts⟩ (c_M_divide_JJI l _ t0 t1 t2 x6 s0 x5 hk_x5) (pr_pre hRT) (gw_call (k := 3) hts tw_627 tw_628 tw_4 tw_629 (by decide +kernel) rfl rfl ⟨Nat.le_of_ble_eq_true rfl, Nat.le_of_ble_eq_true rfl⟩) rfl hl.1 rfl (Nat.le_of_ble_eq_true rfl) ⟨Nat.zero_le _, Nat.zero_le _⟩ d_M_reckoned_IJJ_168 ?_
                          refine lv_topl (fun v24 e24 => ?_)
                          refine lv_lstore (lv' := [(10, .long v24), (8, .long s0), (0, .int x0), (1, .long x1), (3, .long x3), (5, .int x5), (6, .long x6)]) hx hb d_M_reckoned_IJJ_171 hl (by decide) rfl (fun ls hl => ?_)
                          refine lv_goto (tgt := 239) hx hb d_M_reckoned_IJJ_173 (by decide) ?_
                          exact k_M_reckoned_IJJ_239 C0 hRT x5 v24 ls (lv_sub hl [5, 0] rfl) (by have qe24 := e24.symm; subst qe24; exact (hw.trans (Eq.trans (if_neg c1) (Eq.trans (if_neg c3) (Eq.trans (if_neg c5) (Eq.trans (if_neg c7) (Eq.trans (if_neg c9) (Eq.trans (if_neg c11) (Eq.trans (if_neg c13) (Eq.trans (if_neg c15) (Eq.trans (if_neg c17) (Eq.trans (if_neg c19) (Eq.trans (if_neg c21) (if_pos c23))))))))))))))
                        · skip
                          by_cases c25 : x0 = 12
                          · refine lv_tableIn (off := 124) (tgt := 176) hx hb d_M_reckoned_IJJ_52 (by rw [c25]; decide) (by rw [c25]; decide) (by rw [c25]; rfl) (by decide) ?_
                            refine lv_lload hx hb d_M_reckoned_IJJ_176 (lv_at hl 5 rfl) ?_
                            refine lv_lload hx hb d_M_reckoned_IJJ_178 (lv_at hl 0 rfl) ?_
                            refine lv_iload hx hb d_M_reckoned_IJJ_180 (lv_at hl 4 rfl) ?_
                            refine pu_l (As := [.long x6, .long s0, .int x5]) (rest := []) ⟨hx, hb, hml, hown, hts⟩ (c_M_rest_JJI l _ t0 t1 t2 x6 s0 x5 hk_x5) (pr_pre hRT) (gw_call (k := 3) hts tw_665 tw_666 tw_4 tw_667 (by decide +kernel) rfl rfl ⟨Nat.le_of_ble_eq_true rfl, Nat.le_of_ble_eq_true rfl⟩) rfl hl.1 rfl (Nat.le_of_ble_eq_true rfl) ⟨Nat.zero_le _, Nat.zero_le _⟩ d_M_reckoned_IJJ_182 ?_
                            refine lv_topl (fun v26 e26 => ?_)
                            refine lv_lstore (lv' := [(10, .long v26), (8, .long s0), (0, .int x0), (1, .long x1), (3, .long x3), (5, .int x5), (6, .long x6)]) hx hb d_M_reckoned_IJJ_185 hl (by decide) rfl (fun ls hl => ?_)
                            refine lv_goto (tgt := 239) hx hb d_M_reckoned_IJJ_187 (by decide) ?_
                            exact k_M_reckoned_IJJ_239 C0 hRT x5 v26 ls (lv_sub hl [5, 0] rfl) (by have qe26 := e26.symm; subst qe26; exact (hw.trans (Eq.trans (if_neg c1) (Eq.trans (if_neg c3) (Eq.trans (if_neg c5) (Eq.trans (if_neg c7) (Eq.trans (if_neg c9) (Eq.trans (if_neg c11) (Eq.trans (if_neg c13) (Eq.trans (if_neg c15) (Eq.trans (if_neg c17) (Eq.trans (if_neg c19) (Eq.trans (if_neg c21) (Eq.trans (if_neg c23) (if_pos c25)))))))))))))))
                          · skip
                            refine lv_tableOut (tgt := 221) hx hb d_M_reckoned_IJJ_52 (sw_out (fun j h1 h2 e => by rcases (show j = 0 ∨ j = 1 ∨ j = 2 ∨ j = 3 ∨ j = 4 ∨ j = 5 ∨ j = 6 ∨ j = 7 ∨ j = 8 ∨ j = 9 ∨ j = 10 ∨ j = 11 ∨ j = 12 by omega) with rfl | rfl | rfl | rfl | rfl | rfl | rfl | rfl | rfl | rfl | rfl | rfl | rfl <;> first | exact c1 (Int32.toInt_inj.mp (e.trans (by decide))) | exact c3 (Int32.toInt_inj.mp (e.trans (by decide))) | exact c5 (Int32.toInt_inj.mp (e.trans (by decide))) | exact c7 (Int32.toInt_inj.mp (e.trans (by decide))) | exact c9 (Int32.toInt_inj.mp (e.trans (by decide))) | exact c11 (Int32.toInt_inj.mp (e.trans (by decide))) | exact c13 (Int32.toInt_inj.mp (e.trans (by decide))) | exact c15 (Int32.toInt_inj.mp (e.trans (by decide))) | exact c17 (Int32.toInt_inj.mp (e.trans (by decide))) | exact c19 (Int32.toInt_inj.mp (e.trans (by decide))) | exact c21 (Int32.toInt_inj.mp (e.trans (by decide))) | exact c23 (Int32.toInt_inj.mp (e.trans (by decide))) | exact c25 (Int32.toInt_inj.mp (e.trans (by decide))))) (by decide) ?_
                            refine lv_lload_n hx hb d_M_reckoned_IJJ_221 rfl (lv_at hl 2 rfl) ?_
                            refine lv_lload_n hx hb d_M_reckoned_IJJ_222 rfl (lv_at hl 3 rfl) ?_
                            refine lv_iload_n hx hb d_M_reckoned_IJJ_223 rfl (lv_at hl 1 rfl) ?_
                            refine lv_bipush (v := (14 : Int32)) hx hb d_M_reckoned_IJJ_224 (by decide) ?_
                            refine lv_icmp_ne (tgt := 233) hx hb d_M_reckoned_IJJ_226 (by decide) (fun c27 => ?_) (fun c27 => ?_)
                            · refine lv_iconst (v := 0) hx hb d_M_reckoned_IJJ_233 (by decide) ?_
                              exact k_M_reckoned_IJJ_234 C0 hRT x5 x1 x3 (0 : Int32) ls (lv_sub hl [4] rfl) (by exact (hw.trans (Eq.trans (if_neg c1) (Eq.trans (if_neg c3) (Eq.trans (if_neg c5) (Eq.trans (if_neg c7) (Eq.trans (if_neg c9) (Eq.trans (if_neg c11) (Eq.trans (if_neg c13) (Eq.trans (if_neg c15) (Eq.trans (if_neg c17) (Eq.trans (if_neg c19) (Eq.trans (if_neg c21) (Eq.trans (if_neg c23) (Eq.trans (if_neg c25) (if_neg c27))))))))))))))))
                            · refine lv_iconst (v := 1) hx hb d_M_reckoned_IJJ_229 (by decide) ?_
                              refine lv_goto (tgt := 234) hx hb d_M_reckoned_IJJ_230 (by decide) ?_
                              exact k_M_reckoned_IJJ_234 C0 hRT x5 x1 x3 (1 : Int32) ls (lv_sub hl [4] rfl) (by exact (hw.trans (Eq.trans (if_neg c1) (Eq.trans (if_neg c3) (Eq.trans (if_neg c5) (Eq.trans (if_neg c7) (Eq.trans (if_neg c9) (Eq.trans (if_neg c11) (Eq.trans (if_neg c13) (Eq.trans (if_neg c15) (Eq.trans (if_neg c17) (Eq.trans (if_neg c19) (Eq.trans (if_neg c21) (Eq.trans (if_neg c23) (Eq.trans (if_neg c25) (if_pos c27))))))))))))))))
def f_M_reckoned_IJJ_33 (x0 : Int32) (x1 : Int64) (x3 : Int64) (x5 : Int32) (s0 : Int64) : Int64 :=
  if x5 = (1 : Int32) then
    f_M_reckoned_IJJ_49 x0 x1 x3 x5 s0 (f_M_toFloat_J x3)
  else
    f_M_reckoned_IJJ_49 x0 x1 x3 x5 s0 x3
set_option maxHeartbeats 4000000 in
set_option maxRecDepth 100000 in
theorem k_M_reckoned_IJJ_33 {p : Program} {l : Launch} {e : Env} {s : State} {m : MethodId} {args : Array Value} {below : List Frame} {meth : Method} {c : Code} (C0 : pu_C p s m args meth c b_M_reckoned_IJJ 12 "MotionLabModel" (some .long) (gw y_M_reckoned_IJJ b_M_reckoned_IJJ 12 (some .long))) {t0 t1 t2 : Nat} (hRT : RTH t0 t1 t2 s s.heap) (x0 : Int32) (x1 : Int64) (x3 : Int64) (x5 : Int32) (s0 : Int64) (hk_x5 : vp_in x5 2) (ls : Array Slot) (hl : lv_has ls 12 [(0, .int x0), (1, .long x1), (3, .long x3), (5, .int x5)]) {w : Int64} (hw : w = f_M_reckoned_IJJ_33 x0 x1 x3 x5 s0) : W p l e (headSpec (gw y_M_reckoned_IJJ b_M_reckoned_IJJ 12 (some .long)) ({ frames := 6, cells := 0, slots := 0, locals := 162 } : Room)).room s m args below meth c s.heap [] 0 0 (pu_Ql w below args s) (F0 m 33 ls [.long s0]) := by
  obtain ⟨hx, hb, hml, hown, hts, hr, hlocks⟩ := id C0
  obtain ⟨hT0, hT1, hT2⟩ := id hRT
  refine lv_lstore (lv' := [(6, .long s0), (0, .int x0), (1, .long x1), (3, .long x3), (5, .int x5)]) hx hb d_M_reckoned_IJJ_33 hl (by decide) rfl (fun ls hl => ?_)
  refine lv_iload hx hb d_M_reckoned_IJJ_35 (lv_at hl 4 rfl) ?_
  refine lv_iconst (v := 1) hx hb d_M_reckoned_IJJ_37 (by decide) ?_
  refine lv_icmp_ne (tgt := 48) hx hb d_M_reckoned_IJJ_38 (by decide) (fun c1 => ?_) (fun c1 => ?_)
  · refine lv_lload_n hx hb d_M_reckoned_IJJ_48 rfl (lv_at hl 3 rfl) ?_
    exact k_M_reckoned_IJJ_49 C0 hRT x0 x1 x3 x5 s0 x3 hk_x5 ls (lv_sub hl [1, 2, 3, 4, 0] rfl) (by exact (hw.trans (if_neg c1)))
  · refine lv_lload_n hx hb d_M_reckoned_IJJ_41 rfl (lv_at hl 3 rfl) ?_
    refine pu_l (As := [.long x3]) (rest := []) ⟨hx, hb, hml, hown, hts⟩ (c_M_toFloat_J l _ t0 t1 t2 x3) (pr_pre hRT) (gw_call (k := 1) hts tw_492 tw_493 tw_4 tw_494 (by decide +kernel) rfl rfl ⟨Nat.le_of_ble_eq_true rfl, Nat.le_of_ble_eq_true rfl⟩) rfl hl.1 rfl (Nat.le_of_ble_eq_true rfl) ⟨Nat.zero_le _, Nat.zero_le _⟩ d_M_reckoned_IJJ_42 ?_
    refine lv_goto (tgt := 49) hx hb d_M_reckoned_IJJ_45 (by decide) ?_
    exact k_M_reckoned_IJJ_49 C0 hRT x0 x1 x3 x5 s0 (f_M_toFloat_J x3) hk_x5 ls (lv_sub hl [1, 2, 3, 4, 0] rfl) (by exact (hw.trans (if_pos c1)))
def f_M_reckoned_IJJ_17 (x0 : Int32) (x1 : Int64) (x3 : Int64) (s0 : Int32) : Int64 :=
  if s0 = (1 : Int32) then
    f_M_reckoned_IJJ_33 x0 x1 x3 s0 (f_M_toFloat_J x1)
  else
    f_M_reckoned_IJJ_33 x0 x1 x3 s0 x1
set_option maxHeartbeats 4000000 in
set_option maxRecDepth 100000 in
theorem k_M_reckoned_IJJ_17 {p : Program} {l : Launch} {e : Env} {s : State} {m : MethodId} {args : Array Value} {below : List Frame} {meth : Method} {c : Code} (C0 : pu_C p s m args meth c b_M_reckoned_IJJ 12 "MotionLabModel" (some .long) (gw y_M_reckoned_IJJ b_M_reckoned_IJJ 12 (some .long))) {t0 t1 t2 : Nat} (hRT : RTH t0 t1 t2 s s.heap) (x0 : Int32) (x1 : Int64) (x3 : Int64) (s0 : Int32) (hk_s0 : vp_in s0 2) (ls : Array Slot) (hl : lv_has ls 12 [(0, .int x0), (1, .long x1), (3, .long x3)]) {w : Int64} (hw : w = f_M_reckoned_IJJ_17 x0 x1 x3 s0) : W p l e (headSpec (gw y_M_reckoned_IJJ b_M_reckoned_IJJ 12 (some .long)) ({ frames := 6, cells := 0, slots := 0, locals := 162 } : Room)).room s m args below meth c s.heap [] 0 0 (pu_Ql w below args s) (F0 m 17 ls [.int s0]) := by
  obtain ⟨hx, hb, hml, hown, hts, hr, hlocks⟩ := id C0
  obtain ⟨hT0, hT1, hT2⟩ := id hRT
  refine lv_istore (lv' := [(5, .int s0), (0, .int x0), (1, .long x1), (3, .long x3)]) hx hb d_M_reckoned_IJJ_17 hl (by decide) rfl (fun ls hl => ?_)
  refine lv_iload hx hb d_M_reckoned_IJJ_19 (lv_at hl 0 rfl) ?_
  refine lv_iconst (v := 1) hx hb d_M_reckoned_IJJ_21 (by decide) ?_
  refine lv_icmp_ne (tgt := 32) hx hb d_M_reckoned_IJJ_22 (by decide) (fun c1 => ?_) (fun c1 => ?_)
  · refine lv_lload_n hx hb d_M_reckoned_IJJ_32 rfl (lv_at hl 2 rfl) ?_
    exact k_M_reckoned_IJJ_33 C0 hRT x0 x1 x3 s0 x1 hk_s0 ls (lv_sub hl [1, 2, 3, 0] rfl) (by exact (hw.trans (if_neg c1)))
  · refine lv_lload_n hx hb d_M_reckoned_IJJ_25 rfl (lv_at hl 2 rfl) ?_
    refine pu_l (As := [.long x1]) (rest := []) ⟨hx, hb, hml, hown, hts⟩ (c_M_toFloat_J l _ t0 t1 t2 x1) (pr_pre hRT) (gw_call (k := 1) hts tw_492 tw_493 tw_4 tw_494 (by decide +kernel) rfl rfl ⟨Nat.le_of_ble_eq_true rfl, Nat.le_of_ble_eq_true rfl⟩) rfl hl.1 rfl (Nat.le_of_ble_eq_true rfl) ⟨Nat.zero_le _, Nat.zero_le _⟩ d_M_reckoned_IJJ_26 ?_
    refine lv_goto (tgt := 33) hx hb d_M_reckoned_IJJ_29 (by decide) ?_
    exact k_M_reckoned_IJJ_33 C0 hRT x0 x1 x3 s0 (f_M_toFloat_J x1) hk_s0 ls (lv_sub hl [1, 2, 3, 0] rfl) (by exact (hw.trans (if_pos c1)))
def f_M_reckoned_IJJ_16 (x0 : Int32) (x1 : Int64) (x3 : Int64) : Int64 :=
  f_M_reckoned_IJJ_17 x0 x1 x3 (0 : Int32)
set_option maxHeartbeats 4000000 in
set_option maxRecDepth 100000 in
theorem k_M_reckoned_IJJ_16 {p : Program} {l : Launch} {e : Env} {s : State} {m : MethodId} {args : Array Value} {below : List Frame} {meth : Method} {c : Code} (C0 : pu_C p s m args meth c b_M_reckoned_IJJ 12 "MotionLabModel" (some .long) (gw y_M_reckoned_IJJ b_M_reckoned_IJJ 12 (some .long))) {t0 t1 t2 : Nat} (hRT : RTH t0 t1 t2 s s.heap) (x0 : Int32) (x1 : Int64) (x3 : Int64) (ls : Array Slot) (hl : lv_has ls 12 [(0, .int x0), (1, .long x1), (3, .long x3)]) {w : Int64} (hw : w = f_M_reckoned_IJJ_16 x0 x1 x3) : W p l e (headSpec (gw y_M_reckoned_IJJ b_M_reckoned_IJJ 12 (some .long)) ({ frames := 6, cells := 0, slots := 0, locals := 162 } : Room)).room s m args below meth c s.heap [] 0 0 (pu_Ql w below args s) (F0 m 16 ls []) := by
  obtain ⟨hx, hb, hml, hown, hts, hr, hlocks⟩ := id C0
  obtain ⟨hT0, hT1, hT2⟩ := id hRT
  refine lv_iconst (v := 0) hx hb d_M_reckoned_IJJ_16 (by decide) ?_
  exact k_M_reckoned_IJJ_17 C0 hRT x0 x1 x3 (0 : Int32) (in_of (by decide) (by decide)) ls (lv_sub hl [0, 1, 2] rfl) (by exact (hw.trans rfl))
def f_M_reckoned_IJJ (x0 : Int32) (x1 : Int64) (x3 : Int64) : Int64 :=
  if x0 < (8 : Int32) then
    f_M_reckoned_IJJ_16 x0 x1 x3
  else
    if (12 : Int32) < x0 then
      f_M_reckoned_IJJ_16 x0 x1 x3
    else
      f_M_reckoned_IJJ_17 x0 x1 x3 (1 : Int32)
set_option maxHeartbeats 4000000 in
set_option maxRecDepth 100000 in
theorem c_M_reckoned_IJJ (l : Launch) (h : Heap) (t0 t1 t2 : Nat) (x0 : Int32) (x1 : Int64) (x3 : Int64) : Met l y_M_reckoned_IJJ (gw y_M_reckoned_IJJ b_M_reckoned_IJJ 12 (some .long)) { frames := 6, cells := 0, slots := 0, locals := 162 } (pr_Pc [.int x0, .long x1, .long x3] h t0 t1 t2) (pu_Ml (f_M_reckoned_IJJ x0 x1 x3) h) 0 0 (fun _ => False) := by
  refine Met.ofW (cc := b_M_reckoned_IJJ) (maxL := 12) (ret := (some .long)) (by decide) rfl ?_
  intro p e s m args below meth c s₁ B hml hv
  obtain ⟨rfl, hh, hRT⟩ := hv
  subst hh
  obtain ⟨hT0, hT1, hT2⟩ := id hRT
  have hx := B.exec
  have hb := B.bytes
  have hr := B.returns
  have hts := atoms_spec (ws := (gw y_M_reckoned_IJJ b_M_reckoned_IJJ 12 (some .long))) B.pre
  have hown : s.vm.findClass "MotionLabModel" = some m.cls := findClass_of_methodNamed B.named
  have hlocks := B.notSynchronized
  have C0 : pu_C p s m _ meth c b_M_reckoned_IJJ 12 "MotionLabModel" (some .long) (gw y_M_reckoned_IJJ b_M_reckoned_IJJ 12 (some .long)) := ⟨hx, hb, hml, hown, hts, hr, hlocks⟩
  have hl := lv_entry ([.int x0, .long x1, .long x3]) (n := 12) (Nat.le_of_ble_eq_true rfl)
  rw [lg_entry_eq]
  generalize (lg_sl ([.int x0, .long x1, .long x3]) ++ List.replicate (12 - (lg_sl ([.int x0, .long x1, .long x3])).length) Slot.unset).toArray = ls at hl ⊢
  have hl : lv_has ls 12 [(0, .int x0), (1, .long x1), (3, .long x3)] := hl
  refine lv_iload_n hx hb d_M_reckoned_IJJ_0 rfl (lv_at hl 0 rfl) ?_
  refine lv_bipush (v := (8 : Int32)) hx hb d_M_reckoned_IJJ_1 (by decide) ?_
  refine lv_icmp_lt (tgt := 16) hx hb d_M_reckoned_IJJ_3 (by decide) (fun c1 => ?_) (fun c1 => ?_)
  · exact k_M_reckoned_IJJ_16 C0 hRT x0 x1 x3 ls (lv_sub hl [0, 1, 2] rfl) (by exact (if_pos c1))
  · refine lv_iload_n hx hb d_M_reckoned_IJJ_6 rfl (lv_at hl 0 rfl) ?_
    refine lv_bipush (v := (12 : Int32)) hx hb d_M_reckoned_IJJ_7 (by decide) ?_
    refine lv_icmp_gt (tgt := 16) hx hb d_M_reckoned_IJJ_9 (by decide) (fun c2 => ?_) (fun c2 => ?_)
    · exact k_M_reckoned_IJJ_16 C0 hRT x0 x1 x3 ls (lv_sub hl [0, 1, 2] rfl) (by exact (Eq.trans (if_neg c1) (if_pos c2)))
    · refine lv_iconst (v := 1) hx hb d_M_reckoned_IJJ_12 (by decide) ?_
      refine lv_goto (tgt := 17) hx hb d_M_reckoned_IJJ_13 (by decide) ?_
      exact k_M_reckoned_IJJ_17 C0 hRT x0 x1 x3 (1 : Int32) (in_of (by decide) (by decide)) ls (lv_sub hl [0, 1, 2] rfl) (by exact (Eq.trans (if_neg c1) (if_neg c2)))
