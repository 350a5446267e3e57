-- ===== MotionLab$Ieee.quotient(JJ)J
abbrev y_I_quotient_JJ : MethodName := ⟨"MotionLab$Ieee", "quotient", "(JJ)J"⟩
abbrev b_I_quotient_JJ : ByteArray := prog_2_method_19_code
theorem d_I_quotient_JJ_0 : decode b_I_quotient_JJ 0 = .ok (.lload_n 0, 1) := by decide +kernel
theorem d_I_quotient_JJ_1 : decode b_I_quotient_JJ 1 = .ok (.invokestatic 35, 3) := by decide +kernel
theorem d_I_quotient_JJ_4 : decode b_I_quotient_JJ 4 = .ok (.ifCond .eq 10, 3) := by decide +kernel
theorem d_I_quotient_JJ_7 : decode b_I_quotient_JJ 7 = .ok (.lload_n 2, 1) := by decide +kernel
theorem d_I_quotient_JJ_8 : decode b_I_quotient_JJ 8 = .ok (.invokestatic 35, 3) := by decide +kernel
theorem d_I_quotient_JJ_11 : decode b_I_quotient_JJ 11 = .ok (.ifCond .ne 9, 3) := by decide +kernel
theorem d_I_quotient_JJ_14 : decode b_I_quotient_JJ 14 = .ok (.lload_n 0, 1) := by decide +kernel
theorem d_I_quotient_JJ_15 : decode b_I_quotient_JJ 15 = .ok (.lload_n 2, 1) := by decide +kernel
theorem d_I_quotient_JJ_16 : decode b_I_quotient_JJ 16 = .ok (.invokestatic 78, 3) := by decide +kernel
theorem d_I_quotient_JJ_19 : decode b_I_quotient_JJ 19 = .ok (.lreturn, 1) := by decide +kernel
theorem d_I_quotient_JJ_20 : decode b_I_quotient_JJ 20 = .ok (.lload_n 0, 1) := by decide +kernel
theorem d_I_quotient_JJ_21 : decode b_I_quotient_JJ 21 = .ok (.lload_n 2, 1) := by decide +kernel
theorem d_I_quotient_JJ_22 : decode b_I_quotient_JJ 22 = .ok (.lxor, 1) := by decide +kernel
theorem d_I_quotient_JJ_23 : decode b_I_quotient_JJ 23 = .ok (.ldc2_w 19, 3) := by decide +kernel
theorem d_I_quotient_JJ_26 : decode b_I_quotient_JJ 26 = .ok (.land, 1) := by decide +kernel
theorem d_I_quotient_JJ_27 : decode b_I_quotient_JJ 27 = .ok (.lstore 4, 2) := by decide +kernel
theorem d_I_quotient_JJ_29 : decode b_I_quotient_JJ 29 = .ok (.lload_n 0, 1) := by decide +kernel
theorem d_I_quotient_JJ_30 : decode b_I_quotient_JJ 30 = .ok (.invokestatic 65, 3) := by decide +kernel
theorem d_I_quotient_JJ_33 : decode b_I_quotient_JJ 33 = .ok (.istore 6, 2) := by decide +kernel
theorem d_I_quotient_JJ_35 : decode b_I_quotient_JJ 35 = .ok (.lload_n 2, 1) := by decide +kernel
theorem d_I_quotient_JJ_36 : decode b_I_quotient_JJ 36 = .ok (.invokestatic 65, 3) := by decide +kernel
theorem d_I_quotient_JJ_39 : decode b_I_quotient_JJ 39 = .ok (.istore 7, 2) := by decide +kernel
theorem d_I_quotient_JJ_41 : decode b_I_quotient_JJ 41 = .ok (.lload_n 2, 1) := by decide +kernel
theorem d_I_quotient_JJ_42 : decode b_I_quotient_JJ 42 = .ok (.invokestatic 45, 3) := by decide +kernel
theorem d_I_quotient_JJ_45 : decode b_I_quotient_JJ 45 = .ok (.iload 7, 2) := by decide +kernel
theorem d_I_quotient_JJ_47 : decode b_I_quotient_JJ 47 = .ok (.lshl, 1) := by decide +kernel
theorem d_I_quotient_JJ_48 : decode b_I_quotient_JJ 48 = .ok (.lstore 8, 2) := by decide +kernel
theorem d_I_quotient_JJ_50 : decode b_I_quotient_JJ 50 = .ok (.lload 8, 2) := by decide +kernel
theorem d_I_quotient_JJ_52 : decode b_I_quotient_JJ 52 = .ok (.lconst 0, 1) := by decide +kernel
theorem d_I_quotient_JJ_53 : decode b_I_quotient_JJ 53 = .ok (.lcmp, 1) := by decide +kernel
theorem d_I_quotient_JJ_54 : decode b_I_quotient_JJ 54 = .ok (.ifCond .ne 23, 3) := by decide +kernel
theorem d_I_quotient_JJ_57 : decode b_I_quotient_JJ 57 = .ok (.lload_n 0, 1) := by decide +kernel
theorem d_I_quotient_JJ_58 : decode b_I_quotient_JJ 58 = .ok (.invokestatic 62, 3) := by decide +kernel
theorem d_I_quotient_JJ_61 : decode b_I_quotient_JJ 61 = .ok (.ifCond .eq 9, 3) := by decide +kernel
theorem d_I_quotient_JJ_64 : decode b_I_quotient_JJ 64 = .ok (.ldc2_w 17, 3) := by decide +kernel
theorem d_I_quotient_JJ_67 : decode b_I_quotient_JJ 67 = .ok (.goto 9, 3) := by decide +kernel
theorem d_I_quotient_JJ_70 : decode b_I_quotient_JJ 70 = .ok (.lload 4, 2) := by decide +kernel
theorem d_I_quotient_JJ_72 : decode b_I_quotient_JJ 72 = .ok (.ldc2_w 11, 3) := by decide +kernel
theorem d_I_quotient_JJ_75 : decode b_I_quotient_JJ 75 = .ok (.lor, 1) := by decide +kernel
theorem d_I_quotient_JJ_76 : decode b_I_quotient_JJ 76 = .ok (.lreturn, 1) := by decide +kernel
theorem d_I_quotient_JJ_77 : decode b_I_quotient_JJ 77 = .ok (.lload_n 0, 1) := by decide +kernel
theorem d_I_quotient_JJ_78 : decode b_I_quotient_JJ 78 = .ok (.invokestatic 45, 3) := by decide +kernel
theorem d_I_quotient_JJ_81 : decode b_I_quotient_JJ 81 = .ok (.iload 6, 2) := by decide +kernel
theorem d_I_quotient_JJ_83 : decode b_I_quotient_JJ 83 = .ok (.lshl, 1) := by decide +kernel
theorem d_I_quotient_JJ_84 : decode b_I_quotient_JJ 84 = .ok (.lstore 10, 2) := by decide +kernel
theorem d_I_quotient_JJ_86 : decode b_I_quotient_JJ 86 = .ok (.lload 10, 2) := by decide +kernel
theorem d_I_quotient_JJ_88 : decode b_I_quotient_JJ 88 = .ok (.lload 8, 2) := by decide +kernel
theorem d_I_quotient_JJ_90 : decode b_I_quotient_JJ 90 = .ok (.ldiv, 1) := by decide +kernel
theorem d_I_quotient_JJ_91 : decode b_I_quotient_JJ 91 = .ok (.lstore 12, 2) := by decide +kernel
theorem d_I_quotient_JJ_93 : decode b_I_quotient_JJ 93 = .ok (.lload 10, 2) := by decide +kernel
theorem d_I_quotient_JJ_95 : decode b_I_quotient_JJ 95 = .ok (.lload 12, 2) := by decide +kernel
theorem d_I_quotient_JJ_97 : decode b_I_quotient_JJ 97 = .ok (.lload 8, 2) := by decide +kernel
theorem d_I_quotient_JJ_99 : decode b_I_quotient_JJ 99 = .ok (.lmul, 1) := by decide +kernel
theorem d_I_quotient_JJ_100 : decode b_I_quotient_JJ 100 = .ok (.lsub, 1) := by decide +kernel
theorem d_I_quotient_JJ_101 : decode b_I_quotient_JJ 101 = .ok (.lstore 14, 2) := by decide +kernel
theorem d_I_quotient_JJ_103 : decode b_I_quotient_JJ 103 = .ok (.iconst 0, 1) := by decide +kernel
theorem d_I_quotient_JJ_104 : decode b_I_quotient_JJ 104 = .ok (.istore 16, 2) := by decide +kernel
theorem d_I_quotient_JJ_106 : decode b_I_quotient_JJ 106 = .ok (.iload 16, 2) := by decide +kernel
theorem d_I_quotient_JJ_108 : decode b_I_quotient_JJ 108 = .ok (.bipush 6, 2) := by decide +kernel
theorem d_I_quotient_JJ_110 : decode b_I_quotient_JJ 110 = .ok (.if_icmp .ge 43, 3) := by decide +kernel
theorem d_I_quotient_JJ_113 : decode b_I_quotient_JJ 113 = .ok (.lload 14, 2) := by decide +kernel
theorem d_I_quotient_JJ_115 : decode b_I_quotient_JJ 115 = .ok (.bipush 10, 2) := by decide +kernel
theorem d_I_quotient_JJ_117 : decode b_I_quotient_JJ 117 = .ok (.lshl, 1) := by decide +kernel
theorem d_I_quotient_JJ_118 : decode b_I_quotient_JJ 118 = .ok (.lstore 17, 2) := by decide +kernel
theorem d_I_quotient_JJ_120 : decode b_I_quotient_JJ 120 = .ok (.lload 17, 2) := by decide +kernel
theorem d_I_quotient_JJ_122 : decode b_I_quotient_JJ 122 = .ok (.lload 8, 2) := by decide +kernel
theorem d_I_quotient_JJ_124 : decode b_I_quotient_JJ 124 = .ok (.ldiv, 1) := by decide +kernel
theorem d_I_quotient_JJ_125 : decode b_I_quotient_JJ 125 = .ok (.lstore 19, 2) := by decide +kernel
theorem d_I_quotient_JJ_127 : decode b_I_quotient_JJ 127 = .ok (.lload 12, 2) := by decide +kernel
theorem d_I_quotient_JJ_129 : decode b_I_quotient_JJ 129 = .ok (.bipush 10, 2) := by decide +kernel
theorem d_I_quotient_JJ_131 : decode b_I_quotient_JJ 131 = .ok (.lshl, 1) := by decide +kernel
theorem d_I_quotient_JJ_132 : decode b_I_quotient_JJ 132 = .ok (.lload 19, 2) := by decide +kernel
theorem d_I_quotient_JJ_134 : decode b_I_quotient_JJ 134 = .ok (.lor, 1) := by decide +kernel
theorem d_I_quotient_JJ_135 : decode b_I_quotient_JJ 135 = .ok (.lstore 12, 2) := by decide +kernel
theorem d_I_quotient_JJ_137 : decode b_I_quotient_JJ 137 = .ok (.lload 17, 2) := by decide +kernel
theorem d_I_quotient_JJ_139 : decode b_I_quotient_JJ 139 = .ok (.lload 19, 2) := by decide +kernel
theorem d_I_quotient_JJ_141 : decode b_I_quotient_JJ 141 = .ok (.lload 8, 2) := by decide +kernel
theorem d_I_quotient_JJ_143 : decode b_I_quotient_JJ 143 = .ok (.lmul, 1) := by decide +kernel
theorem d_I_quotient_JJ_144 : decode b_I_quotient_JJ 144 = .ok (.lsub, 1) := by decide +kernel
theorem d_I_quotient_JJ_145 : decode b_I_quotient_JJ 145 = .ok (.lstore 14, 2) := by decide +kernel
theorem d_I_quotient_JJ_147 : decode b_I_quotient_JJ 147 = .ok (.iinc 16 1, 3) := by decide +kernel
theorem d_I_quotient_JJ_150 : decode b_I_quotient_JJ 150 = .ok (.goto (-44), 3) := by decide +kernel
theorem d_I_quotient_JJ_153 : decode b_I_quotient_JJ 153 = .ok (.lload_n 0, 1) := by decide +kernel
theorem d_I_quotient_JJ_154 : decode b_I_quotient_JJ 154 = .ok (.invokestatic 41, 3) := by decide +kernel
theorem d_I_quotient_JJ_157 : decode b_I_quotient_JJ 157 = .ok (.iload 6, 2) := by decide +kernel
theorem d_I_quotient_JJ_159 : decode b_I_quotient_JJ 159 = .ok (.isub, 1) := by decide +kernel
theorem d_I_quotient_JJ_160 : decode b_I_quotient_JJ 160 = .ok (.lload_n 2, 1) := by decide +kernel
theorem d_I_quotient_JJ_161 : decode b_I_quotient_JJ 161 = .ok (.invokestatic 41, 3) := by decide +kernel
theorem d_I_quotient_JJ_164 : decode b_I_quotient_JJ 164 = .ok (.isub, 1) := by decide +kernel
theorem d_I_quotient_JJ_165 : decode b_I_quotient_JJ 165 = .ok (.iload 7, 2) := by decide +kernel
theorem d_I_quotient_JJ_167 : decode b_I_quotient_JJ 167 = .ok (.iadd, 1) := by decide +kernel
theorem d_I_quotient_JJ_168 : decode b_I_quotient_JJ 168 = .ok (.bipush 60, 2) := by decide +kernel
theorem d_I_quotient_JJ_170 : decode b_I_quotient_JJ 170 = .ok (.isub, 1) := by decide +kernel
theorem d_I_quotient_JJ_171 : decode b_I_quotient_JJ 171 = .ok (.istore 16, 2) := by decide +kernel
theorem d_I_quotient_JJ_173 : decode b_I_quotient_JJ 173 = .ok (.lload 4, 2) := by decide +kernel
theorem d_I_quotient_JJ_175 : decode b_I_quotient_JJ 175 = .ok (.iload 16, 2) := by decide +kernel
theorem d_I_quotient_JJ_177 : decode b_I_quotient_JJ 177 = .ok (.lload 14, 2) := by decide +kernel
theorem d_I_quotient_JJ_179 : decode b_I_quotient_JJ 179 = .ok (.lconst 0, 1) := by decide +kernel
theorem d_I_quotient_JJ_180 : decode b_I_quotient_JJ 180 = .ok (.lcmp, 1) := by decide +kernel
theorem d_I_quotient_JJ_181 : decode b_I_quotient_JJ 181 = .ok (.ifCond .ne 8, 3) := by decide +kernel
theorem d_I_quotient_JJ_184 : decode b_I_quotient_JJ 184 = .ok (.lload 12, 2) := by decide +kernel
theorem d_I_quotient_JJ_186 : decode b_I_quotient_JJ 186 = .ok (.goto 7, 3) := by decide +kernel
theorem d_I_quotient_JJ_189 : decode b_I_quotient_JJ 189 = .ok (.lload 12, 2) := by decide +kernel
theorem d_I_quotient_JJ_191 : decode b_I_quotient_JJ 191 = .ok (.lconst 1, 1) := by decide +kernel
theorem d_I_quotient_JJ_192 : decode b_I_quotient_JJ 192 = .ok (.lor, 1) := by decide +kernel
theorem d_I_quotient_JJ_193 : decode b_I_quotient_JJ 193 = .ok (.invokestatic 52, 3) := by decide +kernel
theorem d_I_quotient_JJ_196 : decode b_I_quotient_JJ 196 = .ok (.lreturn, 1) := by decide +kernel
def f_I_quotient_JJ (x0 : Int64) (x2 : Int64) : Int64 :=
  if (f_I_isFinite_J x0) = 0 then
    f_I_unendingQuotient_JJ x0 x2
  else
    if (f_I_isFinite_J x2) = 0 then
      f_I_unendingQuotient_JJ x0 x2
    else
      let v3 : Int64 := (x0 ^^^ x2) &&& (-9223372036854775808 : Int64)
      let v4 : Int32 := f_I_rise_J x0
      let v5 : Int32 := f_I_rise_J x2
      let v6 : Int64 := j_shl (f_I_significand_J x2) v5
      if (lg_cmp v6 (0 : Int64)) = 0 then
        if (f_I_isZero_J x0) = 0 then
          v3 ||| (9218868437227405312 : Int64)
        else
          (9221120237041090560 : Int64)
      else
        let v8 : Int64 := j_shl (f_I_significand_J x0) v4
        let v9 : Int64 := v8 / v6
        let v10 : Int64 := v8 - (v9 * v6)
        let v11 : Int64 := j_shl v10 (10 : Int32)
        let v12 : Int64 := v11 / v6
        let v13 : Int64 := (j_shl v9 (10 : Int32)) ||| v12
        let v14 : Int64 := v11 - (v12 * v6)
        let v15 : Int64 := j_shl v14 (10 : Int32)
        let v16 : Int64 := v15 / v6
        let v17 : Int64 := (j_shl v13 (10 : Int32)) ||| v16
        let v18 : Int64 := v15 - (v16 * v6)
        let v19 : Int64 := j_shl v18 (10 : Int32)
        let v20 : Int64 := v19 / v6
        let v21 : Int64 := (j_shl v17 (10 : Int32)) ||| v20
        let v22 : Int64 := v19 - (v20 * v6)
        let v23 : Int64 := j_shl v22 (10 : Int32)
        let v24 : Int64 := v23 / v6
        let v25 : Int64 := (j_shl v21 (10 : Int32)) ||| v24
        let v26 : Int64 := v23 - (v24 * v6)
        let v27 : Int64 := j_shl v26 (10 : Int32)
        let v28 : Int64 := v27 / v6
        let v29 : Int64 := (j_shl v25 (10 : Int32)) ||| v28
        let v30 : Int64 := v27 - (v28 * v6)
        let v31 : Int64 := j_shl v30 (10 : Int32)
        let v32 : Int64 := v31 / v6
        let v33 : Int64 := (j_shl v29 (10 : Int32)) ||| v32
        let v34 : Int64 := v31 - (v32 * v6)
        let v35 : Int32 := ((((f_I_power_J x0) - v4) - (f_I_power_J x2)) + v5) - (60 : Int32)
        if (lg_cmp v34 (0 : Int64)) = 0 then
          f_I_nearest_JIJ v3 v35 v33
        else
          f_I_nearest_JIJ v3 v35 (v33 ||| (1 : Int64))
set_option maxHeartbeats 4000000 in
set_option maxRecDepth 100000 in
theorem c_I_quotient_JJ (l : Launch) (h : Heap) (x0 : Int64) (x2 : Int64) : Met l y_I_quotient_JJ (gw y_I_quotient_JJ b_I_quotient_JJ 21 (some .long)) { frames := 3, cells := 0, slots := 0, locals := 69 } (pu_Pc [.long x0, .long x2] h) (pu_Ml (f_I_quotient_JJ x0 x2) h) 0 0 (fun _ => False) := by
  refine Met.ofW (cc := b_I_quotient_JJ) (maxL := 21) (ret := (some .long)) (by decide) rfl ?_
  intro p e s m args below meth c s₁ B hml hv
  obtain ⟨rfl, hh⟩ := hv
  subst hh
  have hx := B.exec
  have hb := B.bytes
  have hr := B.returns
  have hts := atoms_spec (ws := (gw y_I_quotient_JJ b_I_quotient_JJ 21 (some .long))) B.pre
  have hown : s.vm.findClass "MotionLab$Ieee" = some m.cls := findClass_of_methodNamed B.named
  have hlocks := B.notSynchronized
  have C0 : pu_C p s m _ meth c b_I_quotient_JJ 21 "MotionLab$Ieee" (some .long) (gw y_I_quotient_JJ b_I_quotient_JJ 21 (some .long)) := ⟨hx, hb, hml, hown, hts, hr, hlocks⟩
  have hl := lv_entry ([.long x0, .long x2]) (n := 21) (Nat.le_of_ble_eq_true rfl)
  rw [lg_entry_eq]
  generalize (lg_sl ([.long x0, .long x2]) ++ List.replicate (21 - (lg_sl ([.long x0, .long x2])).length) Slot.unset).toArray = ls at hl ⊢
  have hl : lv_has ls 21 [(0, .long x0), (2, .long x2)] := hl
  refine lv_lload_n hx hb d_I_quotient_JJ_0 rfl (lv_at hl 0 rfl) ?_
  refine pu_i (As := [.long x0]) (rest := []) ⟨hx, hb, hml, hown, hts⟩ (c_I_isFinite_J l _ x0) pu_pre (gw_call (k := 1) hts tw_81 tw_82 tw_5 tw_83 (by decide +kernel) rfl rfl ⟨Nat.le_of_ble_eq_true rfl, Nat.le_of_ble_eq_true rfl⟩) rfl hl.1 rfl (Nat.le_of_ble_eq_true rfl) ⟨Nat.zero_le _, Nat.zero_le _⟩ d_I_quotient_JJ_1 ?_
  refine lv_if_eq (tgt := 14) hx hb d_I_quotient_JJ_4 (by decide) (fun c1 => ?_) (fun c1 => ?_)
  · refine lv_lload_n hx hb d_I_quotient_JJ_14 rfl (lv_at hl 0 rfl) ?_
    refine lv_lload_n hx hb d_I_quotient_JJ_15 rfl (lv_at hl 1 rfl) ?_
    refine pu_l (As := [.long x0, .long x2]) (rest := []) ⟨hx, hb, hml, hown, hts⟩ (c_I_unendingQuotient_JJ l _ x0 x2) pu_pre (gw_call (k := 2) hts tw_226 tw_227 tw_5 tw_228 (by decide +kernel) rfl rfl ⟨Nat.le_of_ble_eq_true rfl, Nat.le_of_ble_eq_true rfl⟩) rfl hl.1 rfl (Nat.le_of_ble_eq_true rfl) ⟨Nat.zero_le _, Nat.zero_le _⟩ d_I_quotient_JJ_16 ?_
    exact pu_lret hx hb hr hlocks d_I_quotient_JJ_19 (by exact Eq.symm (if_pos c1))
  · refine lv_lload_n hx hb d_I_quotient_JJ_7 rfl (lv_at hl 1 rfl) ?_
    refine pu_i (As := [.long x2]) (rest := []) ⟨hx, hb, hml, hown, hts⟩ (c_I_isFinite_J l _ x2) pu_pre (gw_call (k := 1) hts tw_81 tw_82 tw_5 tw_83 (by decide +kernel) rfl rfl ⟨Nat.le_of_ble_eq_true rfl, Nat.le_of_ble_eq_true rfl⟩) rfl hl.1 rfl (Nat.le_of_ble_eq_true rfl) ⟨Nat.zero_le _, Nat.zero_le _⟩ d_I_quotient_JJ_8 ?_
    refine lv_if_ne (tgt := 20) hx hb d_I_quotient_JJ_11 (by decide) (fun c2 => ?_) (fun c2 => ?_)
    · refine lv_lload_n hx hb d_I_quotient_JJ_20 rfl (lv_at hl 0 rfl) ?_
      refine lv_lload_n hx hb d_I_quotient_JJ_21 rfl (lv_at hl 1 rfl) ?_
      refine lv_lxor hx hb d_I_quotient_JJ_22 ?_
      refine lv_ldc2 (v := (-9223372036854775808 : Int64)) hx hb hown (hts _ (gm tw_93)) d_I_quotient_JJ_23 ?_
      refine lv_land hx hb d_I_quotient_JJ_26 ?_
      refine lv_topl (fun v3 e3 => ?_)
      refine lv_lstore (lv' := [(4, .long v3), (0, .long x0), (2, .long x2)]) hx hb d_I_quotient_JJ_27 hl (by decide) rfl (fun ls hl => ?_)
      refine lv_lload_n hx hb d_I_quotient_JJ_29 rfl (lv_at hl 1 rfl) ?_
      refine pu_i (As := [.long x0]) (rest := []) ⟨hx, hb, hml, hown, hts⟩ (c_I_rise_J l _ x0) pu_pre (gw_call (k := 1) hts tw_180 tw_181 tw_5 tw_182 (by decide +kernel) rfl rfl ⟨Nat.le_of_ble_eq_true rfl, Nat.le_of_ble_eq_true rfl⟩) rfl hl.1 rfl (Nat.le_of_ble_eq_true rfl) ⟨Nat.zero_le _, Nat.zero_le _⟩ d_I_quotient_JJ_30 ?_
      refine lv_topi (fun v4 e4 => ?_)
      refine lv_istore (lv' := [(6, .int v4), (4, .long v3), (0, .long x0), (2, .long x2)]) hx hb d_I_quotient_JJ_33 hl (by decide) rfl (fun ls hl => ?_)
      refine lv_lload_n hx hb d_I_quotient_JJ_35 rfl (lv_at hl 3 rfl) ?_
      refine pu_i (As := [.long x2]) (rest := []) ⟨hx, hb, hml, hown, hts⟩ (c_I_rise_J l _ x2) pu_pre (gw_call (k := 1) hts tw_180 tw_181 tw_5 tw_182 (by decide +kernel) rfl rfl ⟨Nat.le_of_ble_eq_true rfl, Nat.le_of_ble_eq_true rfl⟩) rfl hl.1 rfl (Nat.le_of_ble_eq_true rfl) ⟨Nat.zero_le _, Nat.zero_le _⟩ d_I_quotient_JJ_36 ?_
      refine lv_topi (fun v5 e5 => ?_)
      refine lv_istore (lv' := [(7, .int v5), (6, .int v4), (4, .long v3), (0, .long x0), (2, .long x2)]) hx hb d_I_quotient_JJ_39 hl (by decide) rfl (fun ls hl => ?_)
      refine lv_lload_n hx hb d_I_quotient_JJ_41 rfl (lv_at hl 4 rfl) ?_
      refine pu_l (As := [.long x2]) (rest := []) ⟨hx, hb, hml, hown, hts⟩ (c_I_significand_J l _ x2) pu_pre (gw_call (k := 1) hts tw_100 tw_101 tw_5 tw_102 (by decide +kernel) rfl rfl ⟨Nat.le_of_ble_eq_true rfl, Nat.le_of_ble_eq_true rfl⟩) rfl hl.1 rfl (Nat.le_of_ble_eq_true rfl) ⟨Nat.zero_le _, Nat.zero_le _⟩ d_I_quotient_JJ_42 ?_
      refine lv_iload hx hb d_I_quotient_JJ_45 (lv_at hl 0 rfl) ?_
      refine lv_lshl (v := j_shl (f_I_significand_J x2) v5) hx hb d_I_quotient_JJ_47 rfl ?_
      refine lv_topl (fun v6 e6 => ?_)
      refine lv_lstore (lv' := [(8, .long v6), (7, .int v5), (6, .int v4), (4, .long v3), (0, .long x0), (2, .long x2)]) hx hb d_I_quotient_JJ_48 hl (by decide) rfl (fun ls hl => ?_)
      refine lv_lload hx hb d_I_quotient_JJ_50 (lv_at hl 0 rfl) ?_
      refine lv_lconst (v := (0 : Int64)) hx hb d_I_quotient_JJ_52 (by decide) ?_
      refine W.lcmp hx hb d_I_quotient_JJ_53 ?_
      refine lv_if_ne (tgt := 77) hx hb d_I_quotient_JJ_54 (by decide) (fun c7 => ?_) (fun c7 => ?_)
      · refine lv_lload_n hx hb d_I_quotient_JJ_77 rfl (lv_at hl 4 rfl) ?_
        refine pu_l (As := [.long x0]) (rest := []) ⟨hx, hb, hml, hown, hts⟩ (c_I_significand_J l _ x0) pu_pre (gw_call (k := 1) hts tw_100 tw_101 tw_5 tw_102 (by decide +kernel) rfl rfl ⟨Nat.le_of_ble_eq_true rfl, Nat.le_of_ble_eq_true rfl⟩) rfl hl.1 rfl (Nat.le_of_ble_eq_true rfl) ⟨Nat.zero_le _, Nat.zero_le _⟩ d_I_quotient_JJ_78 ?_
        refine lv_iload hx hb d_I_quotient_JJ_81 (lv_at hl 2 rfl) ?_
        refine lv_lshl (v := j_shl (f_I_significand_J x0) v4) hx hb d_I_quotient_JJ_83 rfl ?_
        refine lv_topl (fun v8 e8 => ?_)
        refine lv_lstore (lv' := [(10, .long v8), (8, .long v6), (7, .int v5), (6, .int v4), (4, .long v3), (0, .long x0), (2, .long x2)]) hx hb d_I_quotient_JJ_84 hl (by decide) rfl (fun ls hl => ?_)
        refine lv_lload hx hb d_I_quotient_JJ_86 (lv_at hl 0 rfl) ?_
        refine lv_lload hx hb d_I_quotient_JJ_88 (lv_at hl 1 rfl) ?_
        refine lv_ldiv hx hb d_I_quotient_JJ_90 (fun h => c7 ((lg_cmp_eq _ _).mpr h)) ?_
        refine lv_topl (fun v9 e9 => ?_)
        refine lv_lstore (lv' := [(12, .long v9), (10, .long v8), (8, .long v6), (7, .int v5), (6, .int v4), (4, .long v3), (0, .long x0), (2, .long x2)]) hx hb d_I_quotient_JJ_91 hl (by decide) rfl (fun ls hl => ?_)
        refine lv_lload hx hb d_I_quotient_JJ_93 (lv_at hl 1 rfl) ?_
        refine lv_lload hx hb d_I_quotient_JJ_95 (lv_at hl 0 rfl) ?_
        refine lv_lload hx hb d_I_quotient_JJ_97 (lv_at hl 2 rfl) ?_
        refine lv_lmul hx hb d_I_quotient_JJ_99 ?_
        refine lv_lsub hx hb d_I_quotient_JJ_100 ?_
        refine lv_topl (fun v10 e10 => ?_)
        refine lv_lstore (lv' := [(14, .long v10), (12, .long v9), (10, .long v8), (8, .long v6), (7, .int v5), (6, .int v4), (4, .long v3), (0, .long x0), (2, .long x2)]) hx hb d_I_quotient_JJ_101 hl (by decide) rfl (fun ls hl => ?_)
        refine lv_iconst (v := 0) hx hb d_I_quotient_JJ_103 (by decide) ?_
        refine lv_istore (lv' := [(16, .int (0 : Int32)), (14, .long v10), (12, .long v9), (10, .long v8), (8, .long v6), (7, .int v5), (6, .int v4), (4, .long v3), (0, .long x0), (2, .long x2)]) hx hb d_I_quotient_JJ_104 hl (by decide) rfl (fun ls hl => ?_)
        refine lv_iload hx hb d_I_quotient_JJ_106 (lv_at hl 0 rfl) ?_
        refine lv_bipush (v := (6 : Int32)) hx hb d_I_quotient_JJ_108 (by decide) ?_
        refine lv_icmp_ge (tgt := 153) hx hb d_I_quotient_JJ_110 (by decide) (fun c0 => absurd c0 (by decide)) (fun _ => ?_)
        refine lv_lload hx hb d_I_quotient_JJ_113 (lv_at hl 1 rfl) ?_
        refine lv_bipush (v := (10 : Int32)) hx hb d_I_quotient_JJ_115 (by decide) ?_
        refine lv_lshl (v := j_shl v10 (10 : Int32)) hx hb d_I_quotient_JJ_117 rfl ?_
        refine lv_topl (fun v11 e11 => ?_)
        refine lv_lstore (lv' := [(17, .long v11), (16, .int (0 : Int32)), (14, .long v10), (12, .long v9), (10, .long v8), (8, .long v6), (7, .int v5), (6, .int v4), (4, .long v3), (0, .long x0), (2, .long x2)]) hx hb d_I_quotient_JJ_118 hl (by decide) rfl (fun ls hl => ?_)
        refine lv_lload hx hb d_I_quotient_JJ_120 (lv_at hl 0 rfl) ?_
        refine lv_lload hx hb d_I_quotient_JJ_122 (lv_at hl 5 rfl) ?_
        refine lv_ldiv hx hb d_I_quotient_JJ_124 (fun h => c7 ((lg_cmp_eq _ _).mpr h)) ?_
        refine lv_topl (fun v12 e12 => ?_)
        refine lv_lstore (lv' := [(19, .long v12), (17, .long v11), (16, .int (0 : Int32)), (14, .long v10), (12, .long v9), (10, .long v8), (8, .long v6), (7, .int v5), (6, .int v4), (4, .long v3), (0, .long x0), (2, .long x2)]) hx hb d_I_quotient_JJ_125 hl (by decide) rfl (fun ls hl => ?_)
        refine lv_lload hx hb d_I_quotient_JJ_127 (lv_at hl 4 rfl) ?_
        refine lv_bipush (v := (10 : Int32)) hx hb d_I_quotient_JJ_129 (by decide) ?_
        refine lv_lshl (v := j_shl v9 (10 : Int32)) hx hb d_I_quotient_JJ_131 rfl ?_
        refine lv_lload hx hb d_I_quotient_JJ_132 (lv_at hl 0 rfl) ?_
        refine lv_lor hx hb d_I_quotient_JJ_134 ?_
        refine lv_topl (fun v13 e13 => ?_)
        refine lv_lstore (lv' := [(12, .long v13), (19, .long v12), (17, .long v11), (16, .int (0 : Int32)), (14, .long v10), (10, .long v8), (8, .long v6), (7, .int v5), (6, .int v4), (4, .long v3), (0, .long x0), (2, .long x2)]) hx hb d_I_quotient_JJ_135 hl (by decide) rfl (fun ls hl => ?_)
        refine lv_lload hx hb d_I_quotient_JJ_137 (lv_at hl 2 rfl) ?_
        refine lv_lload hx hb d_I_quotient_JJ_139 (lv_at hl 1 rfl) ?_
        refine lv_lload hx hb d_I_quotient_JJ_141 (lv_at hl 6 rfl) ?_
        refine lv_lmul hx hb d_I_quotient_JJ_143 ?_
        refine lv_lsub hx hb d_I_quotient_JJ_144 ?_
        refine lv_topl (fun v14 e14 => ?_)
        refine lv_lstore (lv' := [(14, .long v14), (12, .long v13), (19, .long v12), (17, .long v11), (16, .int (0 : Int32)), (10, .long v8), (8, .long v6), (7, .int v5), (6, .int v4), (4, .long v3), (0, .long x0), (2, .long x2)]) hx hb d_I_quotient_JJ_145 hl (by decide) rfl (fun ls hl => ?_)
        refine lv_iinc (v := (1 : Int32)) (lv' := [(16, .int (1 : Int32)), (14, .long v14), (12, .long v13), (19, .long v12), (17, .long v11), (10, .long v8), (8, .long v6), (7, .int v5), (6, .int v4), (4, .long v3), (0, .long x0), (2, .long x2)]) hx hb d_I_quotient_JJ_147 hl (k := 4) rfl (by decide) (by decide) rfl (fun ls hl => ?_)
        refine lv_goto (tgt := 106) hx hb d_I_quotient_JJ_150 (by decide) ?_
        refine lv_iload hx hb d_I_quotient_JJ_106 (lv_at hl 0 rfl) ?_
        refine lv_bipush (v := (6 : Int32)) hx hb d_I_quotient_JJ_108 (by decide) ?_
        refine lv_icmp_ge (tgt := 153) hx hb d_I_quotient_JJ_110 (by decide) (fun c0 => absurd c0 (by decide)) (fun _ => ?_)
        refine lv_lload hx hb d_I_quotient_JJ_113 (lv_at hl 1 rfl) ?_
        refine lv_bipush (v := (10 : Int32)) hx hb d_I_quotient_JJ_115 (by decide) ?_
        refine lv_lshl (v := j_shl v14 (10 : Int32)) hx hb d_I_quotient_JJ_117 rfl ?_
        refine lv_topl (fun v15 e15 => ?_)
        refine lv_lstore (lv' := [(17, .long v15), (16, .int (1 : Int32)), (14, .long v14), (12, .long v13), (19, .long v12), (10, .long v8), (8, .long v6), (7, .int v5), (6, .int v4), (4, .long v3), (0, .long x0), (2, .long x2)]) hx hb d_I_quotient_JJ_118 hl (by decide) rfl (fun ls hl => ?_)
        refine lv_lload hx hb d_I_quotient_JJ_120 (lv_at hl 0 rfl) ?_
        refine lv_lload hx hb d_I_quotient_JJ_122 (lv_at hl 6 rfl) ?_
        refine lv_ldiv hx hb d_I_quotient_JJ_124 (fun h => c7 ((lg_cmp_eq _ _).mpr h)) ?_
        refine lv_topl (fun v16 e16 => ?_)
        refine lv_lstore (lv' := [(19, .long v16), (17, .long v15), (16, .int (1 : Int32)), (14, .long v14), (12, .long v13), (10, .long v8), (8, .long v6), (7, .int v5), (6, .int v4), (4, .long v3), (0, .long x0), (2, .long x2)]) hx hb d_I_quotient_JJ_125 hl (by decide) rfl (fun ls hl => ?_)
        refine lv_lload hx hb d_I_quotient_JJ_127 (lv_at hl 4 rfl) ?_
        refine lv_bipush (v := (10 : Int32)) hx hb d_I_quotient_JJ_129 (by decide) ?_
        refine lv_lshl (v := j_shl v13 (10 : Int32)) hx hb d_I_quotient_JJ_131 rfl ?_
        refine lv_lload hx hb d_I_quotient_JJ_132 (lv_at hl 0 rfl) ?_
        refine lv_lor hx hb d_I_quotient_JJ_134 ?_
        refine lv_topl (fun v17 e17 => ?_)
        refine lv_lstore (lv' := [(12, .long v17), (19, .long v16), (17, .long v15), (16, .int (1 : Int32)), (14, .long v14), (10, .long v8), (8, .long v6), (7, .int v5), (6, .int v4), (4, .long v3), (0, .long x0), (2, .long x2)]) hx hb d_I_quotient_JJ_135 hl (by decide) rfl (fun ls hl => ?_)
        refine lv_lload hx hb d_I_quotient_JJ_137 (lv_at hl 2 rfl) ?_
        refine lv_lload hx hb d_I_quotient_JJ_139 (lv_at hl 1 rfl) ?_
        refine lv_lload hx hb d_I_quotient_JJ_141 (lv_at hl 6 rfl) ?_
        refine lv_lmul hx hb d_I_quotient_JJ_143 ?_
        refine lv_lsub hx hb d_I_quotient_JJ_144 ?_
        refine lv_topl (fun v18 e18 => ?_)
        refine lv_lstore (lv' := [(14, .long v18), (12, .long v17), (19, .long v16), (17, .long v15), (16, .int (1 : Int32)), (10, .long v8), (8, .long v6), (7, .int v5), (6, .int v4), (4, .long v3), (0, .long x0), (2, .long x2)]) hx hb d_I_quotient_JJ_145 hl (by decide) rfl (fun ls hl => ?_)
        refine lv_iinc (v := (2 : Int32)) (lv' := [(16, .int (2 : Int32)), (14, .long v18), (12, .long v17), (19, .long v16), (17, .long v15), (10, .long v8), (8, .long v6), (7, .int v5), (6, .int v4), (4, .long v3), (0, .long x0), (2, .long x2)]) hx hb d_I_quotient_JJ_147 hl (k := 4) rfl (by decide) (by decide) rfl (fun ls hl => ?_)
        refine lv_goto (tgt := 106) hx hb d_I_quotient_JJ_150 (by decide) ?_
        refine lv_iload hx hb d_I_quotient_JJ_106 (lv_at hl 0 rfl) ?_
        refine lv_bipush (v := (6 : Int32)) hx hb d_I_quotient_JJ_108 (by decide) ?_
        refine lv_icmp_ge (tgt := 153) hx hb d_I_quotient_JJ_110 (by decide) (fun c0 => absurd c0 (by decide)) (fun _ => ?_)
        refine lv_lload hx hb d_I_quotient_JJ_113 (lv_at hl 1 rfl) ?_
        refine lv_bipush (v := (10 : Int32)) hx hb d_I_quotient_JJ_115 (by decide) ?_
        refine lv_lshl (v := j_shl v18 (10 : Int32)) hx hb d_I_quotient_JJ_117 rfl ?_
        refine lv_topl (fun v19 e19 => ?_)
        refine lv_lstore (lv' := [(17, .long v19), (16, .int (2 : Int32)), (14, .long v18), (12, .long v17), (19, .long v16), (10, .long v8), (8, .long v6), (7, .int v5), (6, .int v4), (4, .long v3), (0, .long x0), (2, .long x2)]) hx hb d_I_quotient_JJ_118 hl (by decide) rfl (fun ls hl => ?_)
        refine lv_lload hx hb d_I_quotient_JJ_120 (lv_at hl 0 rfl) ?_
        refine lv_lload hx hb d_I_quotient_JJ_122 (lv_at hl 6 rfl) ?_
        refine lv_ldiv hx hb d_I_quotient_JJ_124 (fun h => c7 ((lg_cmp_eq _ _).mpr h)) ?_
        refine lv_topl (fun v20 e20 => ?_)
        refine lv_lstore (lv' := [(19, .long v20), (17, .long v19), (16, .int (2 : Int32)), (14, .long v18), (12, .long v17), (10, .long v8), (8, .long v6), (7, .int v5), (6, .int v4), (4, .long v3), (0, .long x0), (2, .long x2)]) hx hb d_I_quotient_JJ_125 hl (by decide) rfl (fun ls hl => ?_)
        refine lv_lload hx hb d_I_quotient_JJ_127 (lv_at hl 4 rfl) ?_
        refine lv_bipush (v := (10 : Int32)) hx hb d_I_quotient_JJ_129 (by decide) ?_
        refine lv_lshl (v := j_shl v17 (10 : Int32)) hx hb d_I_quotient_JJ_131 rfl ?_
        refine lv_lload hx hb d_I_quotient_JJ_132 (lv_at hl 0 rfl) ?_
        refine lv_lor hx hb d_I_quotient_JJ_134 ?_
        refine lv_topl (fun v21 e21 => ?_)
        refine lv_lstore (lv' := [(12, .long v21), (19, .long v20), (17, .long v19), (16, .int (2 : Int32)), (14, .long v18), (10, .long v8), (8, .long v6), (7, .int v5), (6, .int v4), (4, .long v3), (0, .long x0), (2, .long x2)]) hx hb d_I_quotient_JJ_135 hl (by decide) rfl (fun ls hl => ?_)
        refine lv_lload hx hb d_I_quotient_JJ_137 (lv_at hl 2 rfl) ?_
        refine lv_lload hx hb d_I_quotient_JJ_139 (lv_at hl 1 rfl) ?_
        refine lv_lload hx hb d_I_quotient_JJ_141 (lv_at hl 6 rfl) ?_
        refine lv_lmul hx hb d_I_quotient_JJ_143 ?_
        refine lv_lsub hx hb d_I_quotient_JJ_144 ?_
        refine lv_topl (fun v22 e22 => ?_)
        refine lv_lstore (lv' := [(14, .long v22), (12, .long v21), (19, .long v20), (17, .long v19), (16, .int (2 : Int32)), (10, .long v8), (8, .long v6), (7, .int v5), (6, .int v4), (4, .long v3), (0, .long x0), (2, .long x2)]) hx hb d_I_quotient_JJ_145 hl (by decide) rfl (fun ls hl => ?_)
        refine lv_iinc (v := (3 : Int32)) (lv' := [(16, .int (3 : Int32)), (14, .long v22), (12, .long v21), (19, .long v20), (17, .long v19), (10, .long v8), (8, .long v6), (7, .int v5), (6, .int v4), (4, .long v3), (0, .long x0), (2, .long x2)]) hx hb d_I_quotient_JJ_147 hl (k := 4) rfl (by decide) (by decide) rfl (fun ls hl => ?_)
        refine lv_goto (tgt := 106) hx hb d_I_quotient_JJ_150 (by decide) ?_
        refine lv_iload hx hb d_I_quotient_JJ_106 (lv_at hl 0 rfl) ?_
        refine lv_bipush (v := (6 : Int32)) hx hb d_I_quotient_JJ_108 (by decide) ?_
        refine lv_icmp_ge (tgt := 153) hx hb d_I_quotient_JJ_110 (by decide) (fun c0 => absurd c0 (by decide)) (fun _ => ?_)
        refine lv_lload hx hb d_I_quotient_JJ_113 (lv_at hl 1 rfl) ?_
        refine lv_bipush (v := (10 : Int32)) hx hb d_I_quotient_JJ_115 (by decide) ?_
        refine lv_lshl (v := j_shl v22 (10 : Int32)) hx hb d_I_quotient_JJ_117 rfl ?_
        refine lv_topl (fun v23 e23 => ?_)
        refine lv_lstore (lv' := [(17, .long v23), (16, .int (3 : Int32)), (14, .long v22), (12, .long v21), (19, .long v20), (10, .long v8), (8, .long v6), (7, .int v5), (6, .int v4), (4, .long v3), (0, .long x0), (2, .long x2)]) hx hb d_I_quotient_JJ_118 hl (by decide) rfl (fun ls hl => ?_)
        refine lv_lload hx hb d_I_quotient_JJ_120 (lv_at hl 0 rfl) ?_
        refine lv_lload hx hb d_I_quotient_JJ_122 (lv_at hl 6 rfl) ?_
        refine lv_ldiv hx hb d_I_quotient_JJ_124 (fun h => c7 ((lg_cmp_eq _ _).mpr h)) ?_
        refine lv_topl (fun v24 e24 => ?_)
        refine lv_lstore (lv' := [(19, .long v24), (17, .long v23), (16, .int (3 : Int32)), (14, .long v22), (12, .long v21), (10, .long v8), (8, .long v6), (7, .int v5), (6, .int v4), (4, .long v3), (0, .long x0), (2, .long x2)]) hx hb d_I_quotient_JJ_125 hl (by decide) rfl (fun ls hl => ?_)
        refine lv_lload hx hb d_I_quotient_JJ_127 (lv_at hl 4 rfl) ?_
        refine lv_bipush (v := (10 : Int32)) hx hb d_I_quotient_JJ_129 (by decide) ?_
        refine lv_lshl (v := j_shl v21 (10 : Int32)) hx hb d_I_quotient_JJ_131 rfl ?_
        refine lv_lload hx hb d_I_quotient_JJ_132 (lv_at hl 0 rfl) ?_
        refine lv_lor hx hb d_I_quotient_JJ_134 ?_
        refine lv_topl (fun v25 e25 => ?_)
        refine lv_lstore (lv' := [(12, .long v25), (19, .long v24), (17, .long v23), (16, .int (3 : Int32)), (14, .long v22), (10, .long v8), (8, .long v6), (7, .int v5), (6, .int v4), (4, .long v3), (0, .long x0), (2, .long x2)]) hx hb d_I_quotient_JJ_135 hl (by decide) rfl (fun ls hl => ?_)
        refine lv_lload hx hb d_I_quotient_JJ_137 (lv_at hl 2 rfl) ?_
        refine lv_lload hx hb d_I_quotient_JJ_139 (lv_at hl 1 rfl) ?_
        refine lv_lload hx hb d_I_quotient_JJ_141 (lv_at hl 6 rfl) ?_
        refine lv_lmul hx hb d_I_quotient_JJ_143 ?_
        refine lv_lsub hx hb d_I_quotient_JJ_144 ?_
        refine lv_topl (fun v26 e26 => ?_)
        refine lv_lstore (lv' := [(14, .long v26), (12, .long v25), (19, .long v24), (17, .long v23), (16, .int (3 : Int32)), (10, .long v8), (8, .long v6), (7, .int v5), (6, .int v4), (4, .long v3), (0, .long x0), (2, .long x2)]) hx hb d_I_quotient_JJ_145 hl (by decide) rfl (fun ls hl => ?_)
        refine lv_iinc (v := (4 : Int32)) (lv' := [(16, .int (4 : Int32)), (14, .long v26), (12, .long v25), (19, .long v24), (17, .long v23), (10, .long v8), (8, .long v6), (7, .int v5), (6, .int v4), (4, .long v3), (0, .long x0), (2, .long x2)]) hx hb d_I_quotient_JJ_147 hl (k := 4) rfl (by decide) (by decide) rfl (fun ls hl => ?_)
        refine lv_goto (tgt := 106) hx hb d_I_quotient_JJ_150 (by decide) ?_
        refine lv_iload hx hb d_I_quotient_JJ_106 (lv_at hl 0 rfl) ?_
        refine lv_bipush (v := (6 : Int32)) hx hb d_I_quotient_JJ_108 (by decide) ?_
        refine lv_icmp_ge (tgt := 153) hx hb d_I_quotient_JJ_110 (by decide) (fun c0 => absurd c0 (by decide)) (fun _ => ?_)
        refine lv_lload hx hb d_I_quotient_JJ_113 (lv_at hl 1 rfl) ?_
        refine lv_bipush (v := (10 : Int32)) hx hb d_I_quotient_JJ_115 (by decide) ?_
        refine lv_lshl (v := j_shl v26 (10 : Int32)) hx hb d_I_quotient_JJ_117 rfl ?_
        refine lv_topl (fun v27 e27 => ?_)
        refine lv_lstore (lv' := [(17, .long v27), (16, .int (4 : Int32)), (14, .long v26), (12, .long v25), (19, .long v24), (10, .long v8), (8, .long v6), (7, .int v5), (6, .int v4), (4, .long v3), (0, .long x0), (2, .long x2)]) hx hb d_I_quotient_JJ_118 hl (by decide) rfl (fun ls hl => ?_)
        refine lv_lload hx hb d_I_quotient_JJ_120 (lv_at hl 0 rfl) ?_
        refine lv_lload hx hb d_I_quotient_JJ_122 (lv_at hl 6 rfl) ?_
        refine lv_ldiv hx hb d_I_quotient_JJ_124 (fun h => c7 ((lg_cmp_eq _ _).mpr h)) ?_
        refine lv_topl (fun v28 e28 => ?_)
        refine lv_lstore (lv' := [(19, .long v28), (17, .long v27), (16, .int (4 : Int32)), (14, .long v26), (12, .long v25), (10, .long v8), (8, .long v6), (7, .int v5), (6, .int v4), (4, .long v3), (0, .long x0), (2, .long x2)]) hx hb d_I_quotient_JJ_125 hl (by decide) rfl (fun ls hl => ?_)
        refine lv_lload hx hb d_I_quotient_JJ_127 (lv_at hl 4 rfl) ?_
        refine lv_bipush (v := (10 : Int32)) hx hb d_I_quotient_JJ_129 (by decide) ?_
        refine lv_lshl (v := j_shl v25 (10 : Int32)) hx hb d_I_quotient_JJ_131 rfl ?_
        refine lv_lload hx hb d_I_quotient_JJ_132 (lv_at hl 0 rfl) ?_
        refine lv_lor hx hb d_I_quotient_JJ_134 ?_
        refine lv_topl (fun v29 e29 => ?_)
        refine lv_lstore (lv' := [(12, .long v29), (19, .long v28), (17, .long v27), (16, .int (4 : Int32)), (14, .long v26), (10, .long v8), (8, .long v6), (7, .int v5), (6, .int v4), (4, .long v3), (0, .long x0), (2, .long x2)]) hx hb d_I_quotient_JJ_135 hl (by decide) rfl (fun ls hl => ?_)
        refine lv_lload hx hb d_I_quotient_JJ_137 (lv_at hl 2 rfl) ?_
        refine lv_lload hx hb d_I_quotient_JJ_139 (lv_at hl 1 rfl) ?_
        refine lv_lload hx hb d_I_quotient_JJ_141 (lv_at hl 6 rfl) ?_
        refine lv_lmul hx hb d_I_quotient_JJ_143 ?_
        refine lv_lsub hx hb d_I_quotient_JJ_144 ?_
        refine lv_topl (fun v30 e30 => ?_)
        refine lv_lstore (lv' := [(14, .long v30), (12, .long v29), (19, .long v28), (17, .long v27), (16, .int (4 : Int32)), (10, .long v8), (8, .long v6), (7, .int v5), (6, .int v4), (4, .long v3), (0, .long x0), (2, .long x2)]) hx hb d_I_quotient_JJ_145 hl (by decide) rfl (fun ls hl => ?_)
        refine lv_iinc (v := (5 : Int32)) (lv' := [(16, .int (5 : Int32)), (14, .long v30), (12, .long v29), (19, .long v28), (17, .long v27), (10, .long v8), (8, .long v6), (7, .int v5), (6, .int v4), (4, .long v3), (0, .long x0), (2, .long x2)]) hx hb d_I_quotient_JJ_147 hl (k := 4) rfl (by decide) (by decide) rfl (fun ls hl => ?_)
        refine lv_goto (tgt := 106) hx hb d_I_quotient_JJ_150 (by decide) ?_
        refine lv_iload hx hb d_I_quotient_JJ_106 (lv_at hl 0 rfl) ?_
        refine lv_bipush (v := (6 : Int32)) hx hb d_I_quotient_JJ_108 (by decide) ?_
        refine lv_icmp_ge (tgt := 153) hx hb d_I_quotient_JJ_110 (by decide) (fun c0 => absurd c0 (by decide)) (fun _ => ?_)
        refine lv_lload hx hb d_I_quotient_JJ_113 (lv_at hl 1 rfl) ?_
        refine lv_bipush (v := (10 : Int32)) hx hb d_I_quotient_JJ_115 (by decide) ?_
        refine lv_lshl (v := j_shl v30 (10 : Int32)) hx hb d_I_quotient_JJ_117 rfl ?_
        refine lv_topl (fun v31 e31 => ?_)
        refine lv_lstore (lv' := [(17, .long v31), (16, .int (5 : Int32)), (14, .long v30), (12, .long v29), (19, .long v28), (10, .long v8), (8, .long v6), (7, .int v5), (6, .int v4), (4, .long v3), (0, .long x0), (2, .long x2)]) hx hb d_I_quotient_JJ_118 hl (by decide) rfl (fun ls hl => ?_)
        refine lv_lload hx hb d_I_quotient_JJ_120 (lv_at hl 0 rfl) ?_
        refine lv_lload hx hb d_I_quotient_JJ_122 (lv_at hl 6 rfl) ?_
        refine lv_ldiv hx hb d_I_quotient_JJ_124 (fun h => c7 ((lg_cmp_eq _ _).mpr h)) ?_
        refine lv_topl (fun v32 e32 => ?_)
        refine lv_lstore (lv' := [(19, .long v32), (17, .long v31), (16, .int (5 : Int32)), (14, .long v30), (12, .long v29), (10, .long v8), (8, .long v6), (7, .int v5), (6, .int v4), (4, .long v3), (0, .long x0), (2, .long x2)]) hx hb d_I_quotient_JJ_125 hl (by decide) rfl (fun ls hl => ?_)
        refine lv_lload hx hb d_I_quotient_JJ_127 (lv_at hl 4 rfl) ?_
        refine lv_bipush (v := (10 : Int32)) hx hb d_I_quotient_JJ_129 (by decide) ?_
        refine lv_lshl (v := j_shl v29 (10 : Int32)) hx hb d_I_quotient_JJ_131 rfl ?_
        refine lv_lload hx hb d_I_quotient_JJ_132 (lv_at hl 0 rfl) ?_
        refine lv_lor hx hb d_I_quotient_JJ_134 ?_
        refine lv_topl (fun v33 e33 => ?_)
        refine lv_lstore (lv' := [(12, .long v33), (19, .long v32), (17, .long v31), (16, .int (5 : Int32)), (14, .long v30), (10, .long v8), (8, .long v6), (7, .int v5), (6, .int v4), (4, .long v3), (0, .long x0), (2, .long x2)]) hx hb d_I_quotient_JJ_135 hl (by decide) rfl (fun ls hl => ?_)
        refine lv_lload hx hb d_I_quotient_JJ_137 (lv_at hl 2 rfl) ?_
        refine lv_lload hx hb d_I_quotient_JJ_139 (lv_at hl 1 rfl) ?_
        refine lv_lload hx hb d_I_quotient_JJ_141 (lv_at hl 6 rfl) ?_
        refine lv_lmul hx hb d_I_quotient_JJ_143 ?_
        refine lv_lsub hx hb d_I_quotient_JJ_144 ?_
        refine lv_topl (fun v34 e34 => ?_)
        refine lv_lstore (lv' := [(14, .long v34), (12, .long v33), (19, .long v32), (17, .long v31), (16, .int (5 : Int32)), (10, .long v8), (8, .long v6), (7, .int v5), (6, .int v4), (4, .long v3), (0, .long x0), (2, .long x2)]) hx hb d_I_quotient_JJ_145 hl (by decide) rfl (fun ls hl => ?_)
        refine lv_iinc (v := (6 : Int32)) (lv' := [(16, .int (6 : Int32)), (14, .long v34), (12, .long v33), (19, .long v32), (17, .long v31), (10, .long v8), (8, .long v6), (7, .int v5), (6, .int v4), (4, .long v3), (0, .long x0), (2, .long x2)]) hx hb d_I_quotient_JJ_147 hl (k := 4) rfl (by decide) (by decide) rfl (fun ls hl => ?_)
        refine lv_goto (tgt := 106) hx hb d_I_quotient_JJ_150 (by decide) ?_
        refine lv_iload hx hb d_I_quotient_JJ_106 (lv_at hl 0 rfl) ?_
        refine lv_bipush (v := (6 : Int32)) hx hb d_I_quotient_JJ_108 (by decide) ?_
        refine lv_icmp_ge (tgt := 153) hx hb d_I_quotient_JJ_110 (by decide) (fun _ => ?_) (fun c0 => absurd c0 (by decide))
        refine lv_lload_n hx hb d_I_quotient_JJ_153 rfl (lv_at hl 10 rfl) ?_
        refine pu_i (As := [.long x0]) (rest := []) ⟨hx, hb, hml, hown, hts⟩ (c_I_power_J l _ x0) pu_pre (gw_call (k := 1) hts tw_94 tw_95 tw_5 tw_96 (by decide +kernel) rfl rfl ⟨Nat.le_of_ble_eq_true rfl, Nat.le_of_ble_eq_true rfl⟩) rfl hl.1 rfl (Nat.le_of_ble_eq_true rfl) ⟨Nat.zero_le _, Nat.zero_le _⟩ d_I_quotient_JJ_154 ?_
        refine lv_iload hx hb d_I_quotient_JJ_157 (lv_at hl 8 rfl) ?_
        refine lv_isub hx hb d_I_quotient_JJ_159 ?_
        refine lv_lload_n hx hb d_I_quotient_JJ_160 rfl (lv_at hl 11 rfl) ?_
        refine pu_i (As := [.long x2]) (rest := [.int ((f_I_power_J x0) - v4)]) ⟨hx, hb, hml, hown, hts⟩ (c_I_power_J l _ x2) pu_pre (gw_call (k := 1) hts tw_94 tw_95 tw_5 tw_96 (by decide +kernel) rfl rfl ⟨Nat.le_of_ble_eq_true rfl, Nat.le_of_ble_eq_true rfl⟩) rfl hl.1 rfl (Nat.le_of_ble_eq_true rfl) ⟨Nat.zero_le _, Nat.zero_le _⟩ d_I_quotient_JJ_161 ?_
        refine lv_isub hx hb d_I_quotient_JJ_164 ?_
        refine lv_iload hx hb d_I_quotient_JJ_165 (lv_at hl 7 rfl) ?_
        refine lv_iadd hx hb d_I_quotient_JJ_167 ?_
        refine lv_bipush (v := (60 : Int32)) hx hb d_I_quotient_JJ_168 (by decide) ?_
        refine lv_isub hx hb d_I_quotient_JJ_170 ?_
        refine lv_topi (fun v35 e35 => ?_)
        refine lv_istore (lv' := [(16, .int v35), (14, .long v34), (12, .long v33), (19, .long v32), (17, .long v31), (10, .long v8), (8, .long v6), (7, .int v5), (6, .int v4), (4, .long v3), (0, .long x0), (2, .long x2)]) hx hb d_I_quotient_JJ_171 hl (by decide) rfl (fun ls hl => ?_)
        refine lv_lload hx hb d_I_quotient_JJ_173 (lv_at hl 9 rfl) ?_
        refine lv_iload hx hb d_I_quotient_JJ_175 (lv_at hl 0 rfl) ?_
        refine lv_lload hx hb d_I_quotient_JJ_177 (lv_at hl 1 rfl) ?_
        refine lv_lconst (v := (0 : Int64)) hx hb d_I_quotient_JJ_179 (by decide) ?_
        refine W.lcmp hx hb d_I_quotient_JJ_180 ?_
        refine lv_if_ne (tgt := 189) hx hb d_I_quotient_JJ_181 (by decide) (fun c36 => ?_) (fun c36 => ?_)
        · refine lv_lload hx hb d_I_quotient_JJ_189 (lv_at hl 2 rfl) ?_
          refine lv_lconst (v := (1 : Int64)) hx hb d_I_quotient_JJ_191 (by decide) ?_
          refine lv_lor hx hb d_I_quotient_JJ_192 ?_
          refine pu_l (As := [.long v3, .int v35, .long (v33 ||| (1 : Int64))]) (rest := []) ⟨hx, hb, hml, hown, hts⟩ (c_I_nearest_JIJ l _ v3 v35 (v33 ||| (1 : Int64))) pu_pre (gw_call (k := 3) hts tw_115 tw_116 tw_5 tw_117 (by decide +kernel) rfl rfl ⟨Nat.le_of_ble_eq_true rfl, Nat.le_of_ble_eq_true rfl⟩) rfl hl.1 rfl (Nat.le_of_ble_eq_true rfl) ⟨Nat.zero_le _, Nat.zero_le _⟩ d_I_quotient_JJ_193 ?_
          exact pu_lret hx hb hr hlocks d_I_quotient_JJ_196 (by have qe3 := e3.symm; have qe4 := e4.symm; have qe5 := e5.symm; have qe6 := e6.symm; have qe8 := e8.symm; have qe9 := e9.symm; have qe10 := e10.symm; have qe11 := e11.symm; have qe12 := e12.symm; have qe13 := e13.symm; have qe14 := e14.symm; have qe15 := e15.symm; have qe16 := e16.symm; have qe17 := e17.symm; have qe18 := e18.symm; have qe19 := e19.symm; have qe20 := e20.symm; have qe21 := e21.symm; have qe22 := e22.symm; have qe23 := e23.symm; have qe24 := e24.symm; have qe25 := e25.symm; have qe26 := e26.symm; have qe27 := e27.symm; have qe28 := e28.symm; have qe29 := e29.symm; have qe30 := e30.symm; have qe31 := e31.symm; have qe32 := e32.symm; have qe33 := e33.symm; have qe34 := e34.symm; have qe35 := e35.symm; subst qe3 qe4 qe5 qe6 qe8 qe9 qe10 qe11 qe12 qe13 qe14 qe15 qe16 qe17 qe18 qe19 qe20 qe21 qe22 qe23 qe24 qe25 qe26 qe27 qe28 qe29 qe30 qe31 qe32 qe33 qe34 qe35; exact Eq.symm (Eq.trans (if_neg c1) (Eq.trans (if_neg c2) (Eq.trans (if_neg c7) (if_neg c36)))))
        · refine lv_lload hx hb d_I_quotient_JJ_184 (lv_at hl 2 rfl) ?_
          refine lv_goto (tgt := 193) hx hb d_I_quotient_JJ_186 (by decide) ?_
          refine pu_l (As := [.long v3, .int v35, .long v33]) (rest := []) ⟨hx, hb, hml, hown, hts⟩ (c_I_nearest_JIJ l _ v3 v35 v33) pu_pre (gw_call (k := 3) hts tw_115 tw_116 tw_5 tw_117 (by decide +kernel) rfl rfl ⟨Nat.le_of_ble_eq_true rfl, Nat.le_of_ble_eq_true rfl⟩) rfl hl.1 rfl (Nat.le_of_ble_eq_true rfl) ⟨Nat.zero_le _, Nat.zero_le _⟩ d_I_quotient_JJ_193 ?_
          exact pu_lret hx hb hr hlocks d_I_quotient_JJ_196 (by have qe3 := e3.symm; have qe4 := e4.symm; have qe5 := e5.symm; have qe6 := e6.symm; have qe8 := e8.symm; have qe9 := e9.symm; have qe10 := e10.symm; have qe11 := e11.symm; have qe12 := e12.symm; have qe13 := e13.symm; have qe14 := e14.symm; have qe15 := e15.symm; have qe16 := e16.symm; have qe17 := e17.symm; have qe18 := e18.symm; have qe19 := e19.symm; have qe20 := e20.symm; have qe21 := e21.symm; have qe22 := e22.symm; have qe23 := e23.symm; have qe24 := e24.symm; have qe25 := e25.symm; have qe26 := e26.symm; have qe27 := e27.symm; have qe28 := e28.symm; have qe29 := e29.symm; have qe30 := e30.symm; have qe31 := e31.symm; have qe32 := e32.symm; have qe33 := e33.symm; have qe34 := e34.symm; have qe35 := e35.symm; subst qe3 qe4 qe5 qe6 qe8 qe9 qe10 qe11 qe12 qe13 qe14 qe15 qe16 qe17 qe18 qe19 qe20 qe21 qe22 qe23 qe24 qe25 qe26 qe27 qe28 qe29 qe30 qe31 qe32 qe33 qe34 qe35; exact Eq.symm (Eq.trans (if_neg c1) (Eq.trans (if_neg c2) (Eq.trans (if_neg c7) (if_pos c36)))))
      · refine lv_lload_n hx hb d_I_quotient_JJ_57 rfl (lv_at hl 4 rfl) ?_
        refine pu_i (As := [.long x0]) (rest := []) ⟨hx, hb, hml, hown, hts⟩ (c_I_isZero_J l _ x0) pu_pre (gw_call (k := 1) hts tw_177 tw_178 tw_5 tw_179 (by decide +kernel) rfl rfl ⟨Nat.le_of_ble_eq_true rfl, Nat.le_of_ble_eq_true rfl⟩) rfl hl.1 rfl (Nat.le_of_ble_eq_true rfl) ⟨Nat.zero_le _, Nat.zero_le _⟩ d_I_quotient_JJ_58 ?_
        refine lv_if_eq (tgt := 70) hx hb d_I_quotient_JJ_61 (by decide) (fun c37 => ?_) (fun c37 => ?_)
        · refine lv_lload hx hb d_I_quotient_JJ_70 (lv_at hl 3 rfl) ?_
          refine lv_ldc2 (v := (9218868437227405312 : Int64)) hx hb hown (hts _ (gm tw_85)) d_I_quotient_JJ_72 ?_
          refine lv_lor hx hb d_I_quotient_JJ_75 ?_
          exact pu_lret hx hb hr hlocks d_I_quotient_JJ_76 (by have qe3 := e3.symm; have qe4 := e4.symm; have qe5 := e5.symm; have qe6 := e6.symm; subst qe3 qe4 qe5 qe6; exact Eq.symm (Eq.trans (if_neg c1) (Eq.trans (if_neg c2) (Eq.trans (if_pos c7) (if_pos c37)))))
        · refine lv_ldc2 (v := (9221120237041090560 : Int64)) hx hb hown (hts _ (gm tw_92)) d_I_quotient_JJ_64 ?_
          refine lv_goto (tgt := 76) hx hb d_I_quotient_JJ_67 (by decide) ?_
          exact pu_lret hx hb hr hlocks d_I_quotient_JJ_76 (by have qe3 := e3.symm; have qe4 := e4.symm; have qe5 := e5.symm; have qe6 := e6.symm; subst qe3 qe4 qe5 qe6; exact Eq.symm (Eq.trans (if_neg c1) (Eq.trans (if_neg c2) (Eq.trans (if_pos c7) (if_neg c37)))))
    · refine lv_lload_n hx hb d_I_quotient_JJ_14 rfl (lv_at hl 0 rfl) ?_
      refine lv_lload_n hx hb d_I_quotient_JJ_15 rfl (lv_at hl 1 rfl) ?_
      refine pu_l (As := [.long x0, .long x2]) (rest := []) ⟨hx, hb, hml, hown, hts⟩ (c_I_unendingQuotient_JJ l _ x0 x2) pu_pre (gw_call (k := 2) hts tw_226 tw_227 tw_5 tw_228 (by decide +kernel) rfl rfl ⟨Nat.le_of_ble_eq_true rfl, Nat.le_of_ble_eq_true rfl⟩) rfl hl.1 rfl (Nat.le_of_ble_eq_true rfl) ⟨Nat.zero_le _, Nat.zero_le _⟩ d_I_quotient_JJ_16 ?_
      exact pu_lret hx hb hr hlocks d_I_quotient_JJ_19 (by exact Eq.symm (Eq.trans (if_neg c1) (if_pos c2)))
-- ===== MotionLab$Ieee.root(J)J
abbrev y_I_root_J : MethodName := ⟨"MotionLab$Ieee", "root", "(J)J"⟩
abbrev b_I_root_J : ByteArray := prog_2_method_22_code
theorem d_I_root_J_0 : decode b_I_root_J 0 = .ok (.lload_n 0, 1) := by decide +kernel
theorem d_I_root_J_1 : decode b_I_root_J 1 = .ok (.lconst 0, 1) := by decide +kernel
theorem d_I_root_J_2 : decode b_I_root_J 2 = .ok (.lcmp, 1) := by decide +kernel
theorem d_I_root_J_3 : decode b_I_root_J 3 = .ok (.ifCond .le 11, 3) := by decide +kernel
theorem d_I_root_J_6 : decode b_I_root_J 6 = .ok (.lload_n 0, 1) := by decide +kernel
theorem d_I_root_J_7 : decode b_I_root_J 7 = .ok (.ldc2_w 11, 3) := by decide +kernel
theorem d_I_root_J_10 : decode b_I_root_J 10 = .ok (.lcmp, 1) := by decide +kernel
theorem d_I_root_J_11 : decode b_I_root_J 11 = .ok (.ifCond .lt 5, 3) := by decide +kernel
theorem d_I_root_J_14 : decode b_I_root_J 14 = .ok (.lload_n 0, 1) := by decide +kernel
theorem d_I_root_J_15 : decode b_I_root_J 15 = .ok (.lreturn, 1) := by decide +kernel
theorem d_I_root_J_16 : decode b_I_root_J 16 = .ok (.lload_n 0, 1) := by decide +kernel
theorem d_I_root_J_17 : decode b_I_root_J 17 = .ok (.iconst 1, 1) := by decide +kernel
theorem d_I_root_J_18 : decode b_I_root_J 18 = .ok (.lushr, 1) := by decide +kernel
theorem d_I_root_J_19 : decode b_I_root_J 19 = .ok (.ldc2_w 87, 3) := by decide +kernel
theorem d_I_root_J_22 : decode b_I_root_J 22 = .ok (.ladd, 1) := by decide +kernel
theorem d_I_root_J_23 : decode b_I_root_J 23 = .ok (.lstore_n 2, 1) := by decide +kernel
theorem d_I_root_J_24 : decode b_I_root_J 24 = .ok (.iconst 0, 1) := by decide +kernel
theorem d_I_root_J_25 : decode b_I_root_J 25 = .ok (.istore 4, 2) := by decide +kernel
theorem d_I_root_J_27 : decode b_I_root_J 27 = .ok (.iload 4, 2) := by decide +kernel
theorem d_I_root_J_29 : decode b_I_root_J 29 = .ok (.iconst 5, 1) := by decide +kernel
theorem d_I_root_J_30 : decode b_I_root_J 30 = .ok (.if_icmp .ge 25, 3) := by decide +kernel
theorem d_I_root_J_33 : decode b_I_root_J 33 = .ok (.lload_n 2, 1) := by decide +kernel
theorem d_I_root_J_34 : decode b_I_root_J 34 = .ok (.lload_n 0, 1) := by decide +kernel
theorem d_I_root_J_35 : decode b_I_root_J 35 = .ok (.lload_n 2, 1) := by decide +kernel
theorem d_I_root_J_36 : decode b_I_root_J 36 = .ok (.invokestatic 89, 3) := by decide +kernel
theorem d_I_root_J_39 : decode b_I_root_J 39 = .ok (.invokestatic 59, 3) := by decide +kernel
theorem d_I_root_J_42 : decode b_I_root_J 42 = .ok (.ldc2_w 92, 3) := by decide +kernel
theorem d_I_root_J_45 : decode b_I_root_J 45 = .ok (.invokestatic 75, 3) := by decide +kernel
theorem d_I_root_J_48 : decode b_I_root_J 48 = .ok (.lstore_n 2, 1) := by decide +kernel
theorem d_I_root_J_49 : decode b_I_root_J 49 = .ok (.iinc 4 1, 3) := by decide +kernel
theorem d_I_root_J_52 : decode b_I_root_J 52 = .ok (.goto (-25), 3) := by decide +kernel
theorem d_I_root_J_55 : decode b_I_root_J 55 = .ok (.lload_n 2, 1) := by decide +kernel
theorem d_I_root_J_56 : decode b_I_root_J 56 = .ok (.lreturn, 1) := by decide +kernel
def f_I_root_J (x0 : Int64) : Int64 :=
  if (lg_cmp x0 (0 : Int64)) ≤ 0 then
    x0
  else
    if (lg_cmp x0 (9218868437227405312 : Int64)) < 0 then
      let v3 : Int64 := (j_ushr x0 (1 : Int32)) + (2303591209400008704 : Int64)
      let v4 : Int64 := f_I_product_JJ (f_I_sum_JJ v3 (f_I_quotient_JJ x0 v3)) (4602678819172646912 : Int64)
      let v5 : Int64 := f_I_product_JJ (f_I_sum_JJ v4 (f_I_quotient_JJ x0 v4)) (4602678819172646912 : Int64)
      let v6 : Int64 := f_I_product_JJ (f_I_sum_JJ v5 (f_I_quotient_JJ x0 v5)) (4602678819172646912 : Int64)
      let v7 : Int64 := f_I_product_JJ (f_I_sum_JJ v6 (f_I_quotient_JJ x0 v6)) (4602678819172646912 : Int64)
      let v8 : Int64 := f_I_product_JJ (f_I_sum_JJ v7 (f_I_quotient_JJ x0 v7)) (4602678819172646912 : Int64)
      v8
    else
      x0
set_option maxHeartbeats 4000000 in
set_option maxRecDepth 100000 in
theorem c_I_root_J (l : Launch) (h : Heap) (x0 : Int64) : Met l y_I_root_J (gw y_I_root_J b_I_root_J 5 (some .long)) { frames := 4, cells := 0, slots := 0, locals := 109 } (pu_Pc [.long x0] h) (pu_Ml (f_I_root_J x0) h) 0 0 (fun _ => False) := by
  refine Met.ofW (cc := b_I_root_J) (maxL := 5) (ret := (some .long)) (by decide) rfl ?_
  intro p e s m args below meth c s₁ B hml hv
  obtain ⟨rfl, hh⟩ := hv
  subst hh
  have hx := B.exec
  have hb := B.bytes
  have hr := B.returns
  have hts := atoms_spec (ws := (gw y_I_root_J b_I_root_J 5 (some .long))) B.pre
  have hown : s.vm.findClass "MotionLab$Ieee" = some m.cls := findClass_of_methodNamed B.named
  have hlocks := B.notSynchronized
  have C0 : pu_C p s m _ meth c b_I_root_J 5 "MotionLab$Ieee" (some .long) (gw y_I_root_J b_I_root_J 5 (some .long)) := ⟨hx, hb, hml, hown, hts, hr, hlocks⟩
  have hl := lv_entry ([.long x0]) (n := 5) (Nat.le_of_ble_eq_true rfl)
  rw [lg_entry_eq]
  generalize (lg_sl ([.long x0]) ++ List.replicate (5 - (lg_sl ([.long x0])).length) Slot.unset).toArray = ls at hl ⊢
  have hl : lv_has ls 5 [(0, .long x0)] := hl
  refine lv_lload_n hx hb d_I_root_J_0 rfl (lv_at hl 0 rfl) ?_
  refine lv_lconst (v := (0 : Int64)) hx hb d_I_root_J_1 (by decide) ?_
  refine W.lcmp hx hb d_I_root_J_2 ?_
  refine lv_if_le (tgt := 14) hx hb d_I_root_J_3 (by decide) (fun c1 => ?_) (fun c1 => ?_)
  · refine lv_lload_n hx hb d_I_root_J_14 rfl (lv_at hl 0 rfl) ?_
    exact pu_lret hx hb hr hlocks d_I_root_J_15 (by exact Eq.symm (if_pos c1))
  · refine lv_lload_n hx hb d_I_root_J_6 rfl (lv_at hl 0 rfl) ?_
    refine lv_ldc2 (v := (9218868437227405312 : Int64)) hx hb hown (hts _ (gm tw_85)) d_I_root_J_7 ?_
    refine W.lcmp hx hb d_I_root_J_10 ?_
    refine lv_if_lt (tgt := 16) hx hb d_I_root_J_11 (by decide) (fun c2 => ?_) (fun c2 => ?_)
    · refine lv_lload_n hx hb d_I_root_J_16 rfl (lv_at hl 0 rfl) ?_
      refine lv_iconst (v := 1) hx hb d_I_root_J_17 (by decide) ?_
      refine lv_lushr (v := j_ushr x0 (1 : Int32)) hx hb d_I_root_J_18 rfl ?_
      refine lv_ldc2 (v := (2303591209400008704 : Int64)) hx hb hown (hts _ (gm tw_222)) d_I_root_J_19 ?_
      refine lv_ladd hx hb d_I_root_J_22 ?_
      refine lv_topl (fun v3 e3 => ?_)
      refine lv_lstore_n (lv' := [(2, .long v3), (0, .long x0)]) hx hb d_I_root_J_23 rfl hl (by decide) rfl (fun ls hl => ?_)
      refine lv_iconst (v := 0) hx hb d_I_root_J_24 (by decide) ?_
      refine lv_istore (lv' := [(4, .int (0 : Int32)), (2, .long v3), (0, .long x0)]) hx hb d_I_root_J_25 hl (by decide) rfl (fun ls hl => ?_)
      refine lv_iload hx hb d_I_root_J_27 (lv_at hl 0 rfl) ?_
      refine lv_iconst (v := 5) hx hb d_I_root_J_29 (by decide) ?_
      refine lv_icmp_ge (tgt := 55) hx hb d_I_root_J_30 (by decide) (fun c0 => absurd c0 (by decide)) (fun _ => ?_)
      refine lv_lload_n hx hb d_I_root_J_33 rfl (lv_at hl 1 rfl) ?_
      refine lv_lload_n hx hb d_I_root_J_34 rfl (lv_at hl 2 rfl) ?_
      refine lv_lload_n hx hb d_I_root_J_35 rfl (lv_at hl 1 rfl) ?_
      refine pu_l (As := [.long x0, .long v3]) (rest := [.long v3]) ⟨hx, hb, hml, hown, hts⟩ (c_I_quotient_JJ l _ x0 v3) pu_pre (gw_call (k := 2) hts tw_223 tw_224 tw_5 tw_225 (by decide +kernel) rfl rfl ⟨Nat.le_of_ble_eq_true rfl, Nat.le_of_ble_eq_true rfl⟩) rfl hl.1 rfl (Nat.le_of_ble_eq_true rfl) ⟨Nat.zero_le _, Nat.zero_le _⟩ d_I_root_J_36 ?_
      refine pu_l (As := [.long v3, .long (f_I_quotient_JJ x0 v3)]) (rest := []) ⟨hx, hb, hml, hown, hts⟩ (c_I_sum_JJ l _ v3 (f_I_quotient_JJ x0 v3)) pu_pre (gw_call (k := 2) hts tw_191 tw_192 tw_5 tw_193 (by decide +kernel) rfl rfl ⟨Nat.le_of_ble_eq_true rfl, Nat.le_of_ble_eq_true rfl⟩) rfl hl.1 rfl (Nat.le_of_ble_eq_true rfl) ⟨Nat.zero_le _, Nat.zero_le _⟩ d_I_root_J_39 ?_
      refine lv_ldc2 (v := (4602678819172646912 : Int64)) hx hb hown (hts _ (gm tw_229)) d_I_root_J_42 ?_
      refine pu_l (As := [.long (f_I_sum_JJ v3 (f_I_quotient_JJ x0 v3)), .long (4602678819172646912 : Int64)]) (rest := []) ⟨hx, hb, hml, hown, hts⟩ (c_I_product_JJ l _ (f_I_sum_JJ v3 (f_I_quotient_JJ x0 v3)) (4602678819172646912 : Int64)) pu_pre (gw_call (k := 2) hts tw_218 tw_175 tw_5 tw_176 (by decide +kernel) rfl rfl ⟨Nat.le_of_ble_eq_true rfl, Nat.le_of_ble_eq_true rfl⟩) rfl hl.1 rfl (Nat.le_of_ble_eq_true rfl) ⟨Nat.zero_le _, Nat.zero_le _⟩ d_I_root_J_45 ?_
      refine lv_topl (fun v4 e4 => ?_)
      refine lv_lstore_n (lv' := [(2, .long v4), (4, .int (0 : Int32)), (0, .long x0)]) hx hb d_I_root_J_48 rfl hl (by decide) rfl (fun ls hl => ?_)
      refine lv_iinc (v := (1 : Int32)) (lv' := [(4, .int (1 : Int32)), (2, .long v4), (0, .long x0)]) hx hb d_I_root_J_49 hl (k := 1) rfl (by decide) (by decide) rfl (fun ls hl => ?_)
      refine lv_goto (tgt := 27) hx hb d_I_root_J_52 (by decide) ?_
      refine lv_iload hx hb d_I_root_J_27 (lv_at hl 0 rfl) ?_
      refine lv_iconst (v := 5) hx hb d_I_root_J_29 (by decide) ?_
      refine lv_icmp_ge (tgt := 55) hx hb d_I_root_J_30 (by decide) (fun c0 => absurd c0 (by decide)) (fun _ => ?_)
      refine lv_lload_n hx hb d_I_root_J_33 rfl (lv_at hl 1 rfl) ?_
      refine lv_lload_n hx hb d_I_root_J_34 rfl (lv_at hl 2 rfl) ?_
      refine lv_lload_n hx hb d_I_root_J_35 rfl (lv_at hl 1 rfl) ?_
      refine pu_l (As := [.long x0, .long v4]) (rest := [.long v4]) ⟨hx, hb, hml, hown, hts⟩ (c_I_quotient_JJ l _ x0 v4) pu_pre (gw_call (k := 2) hts tw_223 tw_224 tw_5 tw_225 (by decide +kernel) rfl rfl ⟨Nat.le_of_ble_eq_true rfl, Nat.le_of_ble_eq_true rfl⟩) rfl hl.1 rfl (Nat.le_of_ble_eq_true rfl) ⟨Nat.zero_le _, Nat.zero_le _⟩ d_I_root_J_36 ?_
      refine pu_l (As := [.long v4, .long (f_I_quotient_JJ x0 v4)]) (rest := []) ⟨hx, hb, hml, hown, hts⟩ (c_I_sum_JJ l _ v4 (f_I_quotient_JJ x0 v4)) pu_pre (gw_call (k := 2) hts tw_191 tw_192 tw_5 tw_193 (by decide +kernel) rfl rfl ⟨Nat.le_of_ble_eq_true rfl, Nat.le_of_ble_eq_true rfl⟩) rfl hl.1 rfl (Nat.le_of_ble_eq_true rfl) ⟨Nat.zero_le _, Nat.zero_le _⟩ d_I_root_J_39 ?_
      refine lv_ldc2 (v := (4602678819172646912 : Int64)) hx hb hown (hts _ (gm tw_229)) d_I_root_J_42 ?_
      refine pu_l (As := [.long (f_I_sum_JJ v4 (f_I_quotient_JJ x0 v4)), .long (4602678819172646912 : Int64)]) (rest := []) ⟨hx, hb, hml, hown, hts⟩ (c_I_product_JJ l _ (f_I_sum_JJ v4 (f_I_quotient_JJ x0 v4)) (4602678819172646912 : Int64)) pu_pre (gw_call (k := 2) hts tw_218 tw_175 tw_5 tw_176 (by decide +kernel) rfl rfl ⟨Nat.le_of_ble_eq_true rfl, Nat.le_of_ble_eq_true rfl⟩) rfl hl.1 rfl (Nat.le_of_ble_eq_true rfl) ⟨Nat.zero_le _, Nat.zero_le _⟩ d_I_root_J_45 ?_
      refine lv_topl (fun v5 e5 => ?_)
      refine lv_lstore_n (lv' := [(2, .long v5), (4, .int (1 : Int32)), (0, .long x0)]) hx hb d_I_root_J_48 rfl hl (by decide) rfl (fun ls hl => ?_)
      refine lv_iinc (v := (2 : Int32)) (lv' := [(4, .int (2 : Int32)), (2, .long v5), (0, .long x0)]) hx hb d_I_root_J_49 hl (k := 1) rfl (by decide) (by decide) rfl (fun ls hl => ?_)
      refine lv_goto (tgt := 27) hx hb d_I_root_J_52 (by decide) ?_
      refine lv_iload hx hb d_I_root_J_27 (lv_at hl 0 rfl) ?_
      refine lv_iconst (v := 5) hx hb d_I_root_J_29 (by decide) ?_
      refine lv_icmp_ge (tgt := 55) hx hb d_I_root_J_30 (by decide) (fun c0 => absurd c0 (by decide)) (fun _ => ?_)
      refine lv_lload_n hx hb d_I_root_J_33 rfl (lv_at hl 1 rfl) ?_
      refine lv_lload_n hx hb d_I_root_J_34 rfl (lv_at hl 2 rfl) ?_
      refine lv_lload_n hx hb d_I_root_J_35 rfl (lv_at hl 1 rfl) ?_
      refine pu_l (As := [.long x0, .long v5]) (rest := [.long v5]) ⟨hx, hb, hml, hown, hts⟩ (c_I_quotient_JJ l _ x0 v5) pu_pre (gw_call (k := 2) hts tw_223 tw_224 tw_5 tw_225 (by decide +kernel) rfl rfl ⟨Nat.le_of_ble_eq_true rfl, Nat.le_of_ble_eq_true rfl⟩) rfl hl.1 rfl (Nat.le_of_ble_eq_true rfl) ⟨Nat.zero_le _, Nat.zero_le _⟩ d_I_root_J_36 ?_
      refine pu_l (As := [.long v5, .long (f_I_quotient_JJ x0 v5)]) (rest := []) ⟨hx, hb, hml, hown, hts⟩ (c_I_sum_JJ l _ v5 (f_I_quotient_JJ x0 v5)) pu_pre (gw_call (k := 2) hts tw_191 tw_192 tw_5 tw_193 (by decide +kernel) rfl rfl ⟨Nat.le_of_ble_eq_true rfl, Nat.le_of_ble_eq_true rfl⟩) rfl hl.1 rfl (Nat.le_of_ble_eq_true rfl) ⟨Nat.zero_le _, Nat.zero_le _⟩ d_I_root_J_39 ?_
      refine lv_ldc2 (v := (4602678819172646912 : Int64)) hx hb hown (hts _ (gm tw_229)) d_I_root_J_42 ?_
      refine pu_l (As := [.long (f_I_sum_JJ v5 (f_I_quotient_JJ x0 v5)), .long (4602678819172646912 : Int64)]) (rest := []) ⟨hx, hb, hml, hown, hts⟩ (c_I_product_JJ l _ (f_I_sum_JJ v5 (f_I_quotient_JJ x0 v5)) (4602678819172646912 : Int64)) pu_pre (gw_call (k := 2) hts tw_218 tw_175 tw_5 tw_176 (by decide +kernel) rfl rfl ⟨Nat.le_of_ble_eq_true rfl, Nat.le_of_ble_eq_true rfl⟩) rfl hl.1 rfl (Nat.le_of_ble_eq_true rfl) ⟨Nat.zero_le _, Nat.zero_le _⟩ d_I_root_J_45 ?_
      refine lv_topl (fun v6 e6 => ?_)
      refine lv_lstore_n (lv' := [(2, .long v6), (4, .int (2 : Int32)), (0, .long x0)]) hx hb d_I_root_J_48 rfl hl (by decide) rfl (fun ls hl => ?_)
      refine lv_iinc (v := (3 : Int32)) (lv' := [(4, .int (3 : Int32)), (2, .long v6), (0, .long x0)]) hx hb d_I_root_J_49 hl (k := 1) rfl (by decide) (by decide) rfl (fun ls hl => ?_)
      refine lv_goto (tgt := 27) hx hb d_I_root_J_52 (by decide) ?_
      refine lv_iload hx hb d_I_root_J_27 (lv_at hl 0 rfl) ?_
      refine lv_iconst (v := 5) hx hb d_I_root_J_29 (by decide) ?_
      refine lv_icmp_ge (tgt := 55) hx hb d_I_root_J_30 (by decide) (fun c0 => absurd c0 (by decide)) (fun _ => ?_)
      refine lv_lload_n hx hb d_I_root_J_33 rfl (lv_at hl 1 rfl) ?_
      refine lv_lload_n hx hb d_I_root_J_34 rfl (lv_at hl 2 rfl) ?_
      refine lv_lload_n hx hb d_I_root_J_35 rfl (lv_at hl 1 rfl) ?_
      refine pu_l (As := [.long x0, .long v6]) (rest := [.long v6]) ⟨hx, hb, hml, hown, hts⟩ (c_I_quotient_JJ l _ x0 v6) pu_pre (gw_call (k := 2) hts tw_223 tw_224 tw_5 tw_225 (by decide +kernel) rfl rfl ⟨Nat.le_of_ble_eq_true rfl, Nat.le_of_ble_eq_true rfl⟩) rfl hl.1 rfl (Nat.le_of_ble_eq_true rfl) ⟨Nat.zero_le _, Nat.zero_le _⟩ d_I_root_J_36 ?_
      refine pu_l (As := [.long v6, .long (f_I_quotient_JJ x0 v6)]) (rest := []) ⟨hx, hb, hml, hown, hts⟩ (c_I_sum_JJ l _ v6 (f_I_quotient_JJ x0 v6)) pu_pre (gw_call (k := 2) hts tw_191 tw_192 tw_5 tw_193 (by decide +kernel) rfl rfl ⟨Nat.le_of_ble_eq_true rfl, Nat.le_of_ble_eq_true rfl⟩) rfl hl.1 rfl (Nat.le_of_ble_eq_true rfl) ⟨Nat.zero_le _, Nat.zero_le _⟩ d_I_root_J_39 ?_
      refine lv_ldc2 (v := (4602678819172646912 : Int64)) hx hb hown (hts _ (gm tw_229)) d_I_root_J_42 ?_
      refine pu_l (As := [.long (f_I_sum_JJ v6 (f_I_quotient_JJ x0 v6)), .long (4602678819172646912 : Int64)]) (rest := []) ⟨hx, hb, hml, hown, hts⟩ (c_I_product_JJ l _ (f_I_sum_JJ v6 (f_I_quotient_JJ x0 v6)) (4602678819172646912 : Int64)) pu_pre (gw_call (k := 2) hts tw_218 tw_175 tw_5 tw_176 (by decide +kernel) rfl rfl ⟨Nat.le_of_ble_eq_true rfl, Nat.le_of_ble_eq_true rfl⟩) rfl hl.1 rfl (Nat.le_of_ble_eq_true rfl) ⟨Nat.zero_le _, Nat.zero_le _⟩ d_I_root_J_45 ?_
      refine lv_topl (fun v7 e7 => ?_)
      refine lv_lstore_n (lv' := [(2, .long v7), (4, .int (3 : Int32)), (0, .long x0)]) hx hb d_I_root_J_48 rfl hl (by decide) rfl (fun ls hl => ?_)
      refine lv_iinc (v := (4 : Int32)) (lv' := [(4, .int (4 : Int32)), (2, .long v7), (0, .long x0)]) hx hb d_I_root_J_49 hl (k := 1) rfl (by decide) (by decide) rfl (fun ls hl => ?_)
      refine lv_goto (tgt := 27) hx hb d_I_root_J_52 (by decide) ?_
      refine lv_iload hx hb d_I_root_J_27 (lv_at hl 0 rfl) ?_
      refine lv_iconst (v := 5) hx hb d_I_root_J_29 (by decide) ?_
      refine lv_icmp_ge (tgt := 55) hx hb d_I_root_J_30 (by decide) (fun c0 => absurd c0 (by decide)) (fun _ => ?_)
      refine lv_lload_n hx hb d_I_root_J_33 rfl (lv_at hl 1 rfl) ?_
      refine lv_lload_n hx hb d_I_root_J_34 rfl (lv_at hl 2 rfl) ?_
      refine lv_lload_n hx hb d_I_root_J_35 rfl (lv_at hl 1 rfl) ?_
      refine pu_l (As := [.long x0, .long v7]) (rest := [.long v7]) ⟨hx, hb, hml, hown, hts⟩ (c_I_quotient_JJ l _ x0 v7) pu_pre (gw_call (k := 2) hts tw_223 tw_224 tw_5 tw_225 (by decide +kernel) rfl rfl ⟨Nat.le_of_ble_eq_true rfl, Nat.le_of_ble_eq_true rfl⟩) rfl hl.1 rfl (Nat.le_of_ble_eq_true rfl) ⟨Nat.zero_le _, Nat.zero_le _⟩ d_I_root_J_36 ?_
      refine pu_l (As := [.long v7, .long (f_I_quotient_JJ x0 v7)]) (rest := []) ⟨hx, hb, hml, hown, hts⟩ (c_I_sum_JJ l _ v7 (f_I_quotient_JJ x0 v7)) pu_pre (gw_call (k := 2) hts tw_191 tw_192 tw_5 tw_193 (by decide +kernel) rfl rfl ⟨Nat.le_of_ble_eq_true rfl, Nat.le_of_ble_eq_true rfl⟩) rfl hl.1 rfl (Nat.le_of_ble_eq_true rfl) ⟨Nat.zero_le _, Nat.zero_le _⟩ d_I_root_J_39 ?_
      refine lv_ldc2 (v := (4602678819172646912 : Int64)) hx hb hown (hts _ (gm tw_229)) d_I_root_J_42 ?_
      refine pu_l (As := [.long (f_I_sum_JJ v7 (f_I_quotient_JJ x0 v7)), .long (4602678819172646912 : Int64)]) (rest := []) ⟨hx, hb, hml, hown, hts⟩ (c_I_product_JJ l _ (f_I_sum_JJ v7 (f_I_quotient_JJ x0 v7)) (4602678819172646912 : Int64)) pu_pre (gw_call (k := 2) hts tw_218 tw_175 tw_5 tw_176 (by decide +kernel) rfl rfl ⟨Nat.le_of_ble_eq_true rfl, Nat.le_of_ble_eq_true rfl⟩) rfl hl.1 rfl (Nat.le_of_ble_eq_true rfl) ⟨Nat.zero_le _, Nat.zero_le _⟩ d_I_root_J_45 ?_
      refine lv_topl (fun v8 e8 => ?_)
      refine lv_lstore_n (lv' := [(2, .long v8), (4, .int (4 : Int32)), (0, .long x0)]) hx hb d_I_root_J_48 rfl hl (by decide) rfl (fun ls hl => ?_)
      refine lv_iinc (v := (5 : Int32)) (lv' := [(4, .int (5 : Int32)), (2, .long v8), (0, .long x0)]) hx hb d_I_root_J_49 hl (k := 1) rfl (by decide) (by decide) rfl (fun ls hl => ?_)
      refine lv_goto (tgt := 27) hx hb d_I_root_J_52 (by decide) ?_
      refine lv_iload hx hb d_I_root_J_27 (lv_at hl 0 rfl) ?_
      refine lv_iconst (v := 5) hx hb d_I_root_J_29 (by decide) ?_
      refine lv_icmp_ge (tgt := 55) hx hb d_I_root_J_30 (by decide) (fun _ => ?_) (fun c0 => absurd c0 (by decide))
      refine lv_lload_n hx hb d_I_root_J_55 rfl (lv_at hl 1 rfl) ?_
      exact pu_lret hx hb hr hlocks d_I_root_J_56 (by have qe3 := e3.symm; have qe4 := e4.symm; have qe5 := e5.symm; have qe6 := e6.symm; have qe7 := e7.symm; have qe8 := e8.symm; subst qe3 qe4 qe5 qe6 qe7 qe8; exact Eq.symm (Eq.trans (if_neg c1) (if_pos c2)))
    · refine lv_lload_n hx hb d_I_root_J_14 rfl (lv_at hl 0 rfl) ?_
      exact pu_lret hx hb hr hlocks d_I_root_J_15 (by exact Eq.symm (Eq.trans (if_neg c1) (if_neg c2)))
-- ===== MotionLab$Ieee.order(J)J
abbrev y_I_order_J : MethodName := ⟨"MotionLab$Ieee", "order", "(J)J"⟩
abbrev b_I_order_J : ByteArray := prog_2_method_11_code
theorem d_I_order_J_0 : decode b_I_order_J 0 = .ok (.lload_n 0, 1) := by decide +kernel
theorem d_I_order_J_1 : decode b_I_order_J 1 = .ok (.lconst 0, 1) := by decide +kernel
theorem d_I_order_J_2 : decode b_I_order_J 2 = .ok (.lcmp, 1) := by decide +kernel
theorem d_I_order_J_3 : decode b_I_order_J 3 = .ok (.ifCond .ge 11, 3) := by decide +kernel
theorem d_I_order_J_6 : decode b_I_order_J 6 = .ok (.ldc2_w 19, 3) := by decide +kernel
theorem d_I_order_J_9 : decode b_I_order_J 9 = .ok (.lload_n 0, 1) := by decide +kernel
theorem d_I_order_J_10 : decode b_I_order_J 10 = .ok (.lsub, 1) := by decide +kernel
theorem d_I_order_J_11 : decode b_I_order_J 11 = .ok (.goto 4, 3) := by decide +kernel
theorem d_I_order_J_14 : decode b_I_order_J 14 = .ok (.lload_n 0, 1) := by decide +kernel
theorem d_I_order_J_15 : decode b_I_order_J 15 = .ok (.lreturn, 1) := by decide +kernel
def f_I_order_J (x0 : Int64) : Int64 :=
  if 0 ≤ (lg_cmp x0 (0 : Int64)) then
    x0
  else
    (-9223372036854775808 : Int64) - x0
set_option maxHeartbeats 4000000 in
set_option maxRecDepth 100000 in
theorem c_I_order_J (l : Launch) (h : Heap) (x0 : Int64) : Met l y_I_order_J (gw y_I_order_J b_I_order_J 2 (some .long)) { frames := 0, cells := 0, slots := 0, locals := 0 } (pu_Pc [.long x0] h) (pu_Ml (f_I_order_J x0) h) 0 0 (fun _ => False) := by
  refine Met.ofW (cc := b_I_order_J) (maxL := 2) (ret := (some .long)) (by decide) rfl ?_
  intro p e s m args below meth c s₁ B hml hv
  obtain ⟨rfl, hh⟩ := hv
  subst hh
  have hx := B.exec
  have hb := B.bytes
  have hr := B.returns
  have hts := atoms_spec (ws := (gw y_I_order_J b_I_order_J 2 (some .long))) B.pre
  have hown : s.vm.findClass "MotionLab$Ieee" = some m.cls := findClass_of_methodNamed B.named
  have hlocks := B.notSynchronized
  have C0 : pu_C p s m _ meth c b_I_order_J 2 "MotionLab$Ieee" (some .long) (gw y_I_order_J b_I_order_J 2 (some .long)) := ⟨hx, hb, hml, hown, hts, hr, hlocks⟩
  have hl := lv_entry ([.long x0]) (n := 2) (Nat.le_of_ble_eq_true rfl)
  rw [lg_entry_eq]
  generalize (lg_sl ([.long x0]) ++ List.replicate (2 - (lg_sl ([.long x0])).length) Slot.unset).toArray = ls at hl ⊢
  have hl : lv_has ls 2 [(0, .long x0)] := hl
  refine lv_lload_n hx hb d_I_order_J_0 rfl (lv_at hl 0 rfl) ?_
  refine lv_lconst (v := (0 : Int64)) hx hb d_I_order_J_1 (by decide) ?_
  refine W.lcmp hx hb d_I_order_J_2 ?_
  refine lv_if_ge (tgt := 14) hx hb d_I_order_J_3 (by decide) (fun c1 => ?_) (fun c1 => ?_)
  · refine lv_lload_n hx hb d_I_order_J_14 rfl (lv_at hl 0 rfl) ?_
    exact pu_lret hx hb hr hlocks d_I_order_J_15 (by exact Eq.symm (if_pos c1))
  · refine lv_ldc2 (v := (-9223372036854775808 : Int64)) hx hb hown (hts _ (gm tw_93)) d_I_order_J_6 ?_
    refine lv_lload_n hx hb d_I_order_J_9 rfl (lv_at hl 0 rfl) ?_
    refine lv_lsub hx hb d_I_order_J_10 ?_
    refine lv_goto (tgt := 15) hx hb d_I_order_J_11 (by decide) ?_
    exact pu_lret hx hb hr hlocks d_I_order_J_15 (by exact Eq.symm (if_neg c1))
