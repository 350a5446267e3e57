-- ===== MotionLabModel.power(JI)I
abbrev y_M_power_JI : MethodName := ⟨"MotionLabModel", "power", "(JI)I"⟩
abbrev b_M_power_JI : ByteArray := prog_6_method_12_code
theorem d_M_power_JI_0 : decode b_M_power_JI 0 = .ok (.lload_n 0, 1) := by decide +kernel
theorem d_M_power_JI_1 : decode b_M_power_JI 1 = .ok (.iload_n 2, 1) := by decide +kernel
theorem d_M_power_JI_2 : decode b_M_power_JI 2 = .ok (.invokestatic 15, 3) := by decide +kernel
theorem d_M_power_JI_5 : decode b_M_power_JI 5 = .ok (.getstatic 23, 3) := by decide +kernel
theorem d_M_power_JI_8 : decode b_M_power_JI 8 = .ok (.iload_n 2, 1) := by decide +kernel
theorem d_M_power_JI_9 : decode b_M_power_JI 9 = .ok (.iaload, 1) := by decide +kernel
theorem d_M_power_JI_10 : decode b_M_power_JI 10 = .ok (.iconst 1, 1) := by decide +kernel
theorem d_M_power_JI_11 : decode b_M_power_JI 11 = .ok (.isub, 1) := by decide +kernel
theorem d_M_power_JI_12 : decode b_M_power_JI 12 = .ok (.lushr, 1) := by decide +kernel
theorem d_M_power_JI_13 : decode b_M_power_JI 13 = .ok (.lstore_n 3, 1) := by decide +kernel
theorem d_M_power_JI_14 : decode b_M_power_JI 14 = .ok (.getstatic 27, 3) := by decide +kernel
theorem d_M_power_JI_17 : decode b_M_power_JI 17 = .ok (.iload_n 2, 1) := by decide +kernel
theorem d_M_power_JI_18 : decode b_M_power_JI 18 = .ok (.iaload, 1) := by decide +kernel
theorem d_M_power_JI_19 : decode b_M_power_JI 19 = .ok (.lload_n 3, 1) := by decide +kernel
theorem d_M_power_JI_20 : decode b_M_power_JI 20 = .ok (.lconst 1, 1) := by decide +kernel
theorem d_M_power_JI_21 : decode b_M_power_JI 21 = .ok (.invokestatic 30, 3) := by decide +kernel
theorem d_M_power_JI_24 : decode b_M_power_JI 24 = .ok (.l2i, 1) := by decide +kernel
theorem d_M_power_JI_25 : decode b_M_power_JI 25 = .ok (.iadd, 1) := by decide +kernel
theorem d_M_power_JI_26 : decode b_M_power_JI 26 = .ok (.iconst 1, 1) := by decide +kernel
theorem d_M_power_JI_27 : decode b_M_power_JI 27 = .ok (.isub, 1) := by decide +kernel
theorem d_M_power_JI_28 : decode b_M_power_JI 28 = .ok (.ireturn, 1) := by decide +kernel
def f_M_power_JI (x0 : Int64) (x2 : Int32) : Int32 :=
  let v1 : Int64 := j_ushr (f_M_size_JI x0 x2) ((tP_at x2) - (1 : Int32))
  ((tL_at x2) + ((f_jM_max_JJ v1 (1 : Int64)).toInt32)) - (1 : Int32)
set_option maxHeartbeats 4000000 in
set_option maxRecDepth 100000 in
theorem c_M_power_JI (l : Launch) (h : Heap) (t0 t1 t2 : Nat) (x0 : Int64) (x2 : Int32) (hk_x2 : vp_in x2 2) : Met l y_M_power_JI (gw y_M_power_JI b_M_power_JI 5 (some .int)) { frames := 2, cells := 0, slots := 0, locals := 42 } (pr_Pc [.long x0, .int x2] h t0 t1 t2) (pu_Mi (f_M_power_JI x0 x2) h) 0 0 (fun _ => False) := by
  refine Met.ofW (cc := b_M_power_JI) (maxL := 5) (ret := (some .int)) (by decide) rfl ?_
  intro p e s m args below meth c s₁ B hml hv
  obtain ⟨rfl, hh, hRT⟩ := hv
  subst hh
  obtain ⟨hT0, hT1, hT2⟩ := id hRT
  have hx := B.exec
  have hb := B.bytes
  have hr := B.returns
  have hts := atoms_spec (ws := (gw y_M_power_JI b_M_power_JI 5 (some .int))) B.pre
  have hown : s.vm.findClass "MotionLabModel" = some m.cls := findClass_of_methodNamed B.named
  have hlocks := B.notSynchronized
  have C0 : pu_C p s m _ meth c b_M_power_JI 5 "MotionLabModel" (some .int) (gw y_M_power_JI b_M_power_JI 5 (some .int)) := ⟨hx, hb, hml, hown, hts, hr, hlocks⟩
  have hl := lv_entry ([.long x0, .int x2]) (n := 5) (Nat.le_of_ble_eq_true rfl)
  rw [lg_entry_eq]
  generalize (lg_sl ([.long x0, .int x2]) ++ List.replicate (5 - (lg_sl ([.long x0, .int x2])).length) Slot.unset).toArray = ls at hl ⊢
  have hl : lv_has ls 5 [(0, .long x0), (2, .int x2)] := hl
  refine lv_lload_n hx hb d_M_power_JI_0 rfl (lv_at hl 0 rfl) ?_
  refine lv_iload_n hx hb d_M_power_JI_1 rfl (lv_at hl 1 rfl) ?_
  refine pu_l (As := [.long x0, .int x2]) (rest := []) ⟨hx, hb, hml, hown, hts⟩ (c_M_size_JI l _ x0 x2) pu_pre (gw_call (k := 2) hts tw_501 tw_502 tw_4 tw_503 (by decide +kernel) rfl rfl ⟨Nat.le_of_ble_eq_true rfl, Nat.le_of_ble_eq_true rfl⟩) rfl hl.1 rfl (Nat.le_of_ble_eq_true rfl) ⟨Nat.zero_le _, Nat.zero_le _⟩ d_M_power_JI_2 ?_
  refine va_gets hx hb hT0.1 va_S.rf hown (hts _ (gm tw_528)) (fun _ h9 => h9) d_M_power_JI_5 ?_
  refine lv_iload_n hx hb d_M_power_JI_8 rfl (lv_at hl 1 rfl) ?_
  refine va_ti hx hb hT0.2 va_S.rf hk_x2 (v := .int (tP_at x2)) rfl d_M_power_JI_9 ?_
  refine lv_iconst (v := 1) hx hb d_M_power_JI_10 (by decide) ?_
  refine lv_isub hx hb d_M_power_JI_11 ?_
  refine lv_lushr (v := j_ushr (f_M_size_JI x0 x2) ((tP_at x2) - (1 : Int32))) hx hb d_M_power_JI_12 rfl ?_
  refine lv_topl (fun v1 e1 => ?_)
  refine lv_lstore_n (lv' := [(3, .long v1), (0, .long x0), (2, .int x2)]) hx hb d_M_power_JI_13 rfl hl (by decide) rfl (fun ls hl => ?_)
  refine va_gets hx hb hT1.1 va_S.rf hown (hts _ (gm tw_533)) (fun _ h9 => h9) d_M_power_JI_14 ?_
  refine lv_iload_n hx hb d_M_power_JI_17 rfl (lv_at hl 2 rfl) ?_
  refine va_ti hx hb hT1.2 va_S.rf hk_x2 (v := .int (tL_at x2)) rfl d_M_power_JI_18 ?_
  refine lv_lload_n hx hb d_M_power_JI_19 rfl (lv_at hl 0 rfl) ?_
  refine lv_lconst (v := (1 : Int64)) hx hb d_M_power_JI_20 (by decide) ?_
  refine pu_l (As := [.long v1, .long (1 : Int64)]) (rest := [.int (tL_at x2)]) ⟨hx, hb, hml, hown, hts⟩ (c_jM_max_JJ l _ v1 (1 : Int64)) pu_pre (gw_call (k := 2) hts tw_535 tw_355 tw_6 tw_356 (by decide +kernel) rfl rfl ⟨Nat.le_of_ble_eq_true rfl, Nat.le_of_ble_eq_true rfl⟩) rfl hl.1 rfl (Nat.le_of_ble_eq_true rfl) ⟨Nat.zero_le _, Nat.zero_le _⟩ d_M_power_JI_21 ?_
  refine lv_l2i hx hb d_M_power_JI_24 rfl ?_
  refine lv_iadd hx hb d_M_power_JI_25 ?_
  refine lv_iconst (v := 1) hx hb d_M_power_JI_26 (by decide) ?_
  refine lv_isub hx hb d_M_power_JI_27 ?_
  exact pu_iret hx hb hr hlocks d_M_power_JI_28 (by have qe1 := e1.symm; subst qe1; exact Eq.symm rfl)
-- ===== MotionLabModel.rounded(ZJIZI)J
abbrev y_M_rounded_ZJIZI : MethodName := ⟨"MotionLabModel", "rounded", "(ZJIZI)J"⟩
abbrev b_M_rounded_ZJIZI : ByteArray := prog_6_method_13_code
theorem d_M_rounded_ZJIZI_0 : decode b_M_rounded_ZJIZI 0 = .ok (.lload_n 1, 1) := by decide +kernel
theorem d_M_rounded_ZJIZI_1 : decode b_M_rounded_ZJIZI 1 = .ok (.lconst 0, 1) := by decide +kernel
theorem d_M_rounded_ZJIZI_2 : decode b_M_rounded_ZJIZI 2 = .ok (.lcmp, 1) := by decide +kernel
theorem d_M_rounded_ZJIZI_3 : decode b_M_rounded_ZJIZI 3 = .ok (.ifCond .ne 11, 3) := by decide +kernel
theorem d_M_rounded_ZJIZI_6 : decode b_M_rounded_ZJIZI 6 = .ok (.lconst 0, 1) := by decide +kernel
theorem d_M_rounded_ZJIZI_7 : decode b_M_rounded_ZJIZI 7 = .ok (.iload_n 0, 1) := by decide +kernel
theorem d_M_rounded_ZJIZI_8 : decode b_M_rounded_ZJIZI 8 = .ok (.iload 5, 2) := by decide +kernel
theorem d_M_rounded_ZJIZI_10 : decode b_M_rounded_ZJIZI 10 = .ok (.invokestatic 36, 3) := by decide +kernel
theorem d_M_rounded_ZJIZI_13 : decode b_M_rounded_ZJIZI 13 = .ok (.lreturn, 1) := by decide +kernel
theorem d_M_rounded_ZJIZI_14 : decode b_M_rounded_ZJIZI 14 = .ok (.getstatic 23, 3) := by decide +kernel
theorem d_M_rounded_ZJIZI_17 : decode b_M_rounded_ZJIZI 17 = .ok (.iload 5, 2) := by decide +kernel
theorem d_M_rounded_ZJIZI_19 : decode b_M_rounded_ZJIZI 19 = .ok (.iaload, 1) := by decide +kernel
theorem d_M_rounded_ZJIZI_20 : decode b_M_rounded_ZJIZI 20 = .ok (.istore 6, 2) := by decide +kernel
theorem d_M_rounded_ZJIZI_22 : decode b_M_rounded_ZJIZI 22 = .ok (.bipush 64, 2) := by decide +kernel
theorem d_M_rounded_ZJIZI_24 : decode b_M_rounded_ZJIZI 24 = .ok (.lload_n 1, 1) := by decide +kernel
theorem d_M_rounded_ZJIZI_25 : decode b_M_rounded_ZJIZI 25 = .ok (.invokestatic 40, 3) := by decide +kernel
theorem d_M_rounded_ZJIZI_28 : decode b_M_rounded_ZJIZI 28 = .ok (.isub, 1) := by decide +kernel
theorem d_M_rounded_ZJIZI_29 : decode b_M_rounded_ZJIZI 29 = .ok (.istore 7, 2) := by decide +kernel
theorem d_M_rounded_ZJIZI_31 : decode b_M_rounded_ZJIZI 31 = .ok (.iload 7, 2) := by decide +kernel
theorem d_M_rounded_ZJIZI_33 : decode b_M_rounded_ZJIZI 33 = .ok (.iload 6, 2) := by decide +kernel
theorem d_M_rounded_ZJIZI_35 : decode b_M_rounded_ZJIZI 35 = .ok (.isub, 1) := by decide +kernel
theorem d_M_rounded_ZJIZI_36 : decode b_M_rounded_ZJIZI 36 = .ok (.getstatic 27, 3) := by decide +kernel
theorem d_M_rounded_ZJIZI_39 : decode b_M_rounded_ZJIZI 39 = .ok (.iload 5, 2) := by decide +kernel
theorem d_M_rounded_ZJIZI_41 : decode b_M_rounded_ZJIZI 41 = .ok (.iaload, 1) := by decide +kernel
theorem d_M_rounded_ZJIZI_42 : decode b_M_rounded_ZJIZI 42 = .ok (.iload_n 3, 1) := by decide +kernel
theorem d_M_rounded_ZJIZI_43 : decode b_M_rounded_ZJIZI 43 = .ok (.isub, 1) := by decide +kernel
theorem d_M_rounded_ZJIZI_44 : decode b_M_rounded_ZJIZI 44 = .ok (.invokestatic 46, 3) := by decide +kernel
theorem d_M_rounded_ZJIZI_47 : decode b_M_rounded_ZJIZI 47 = .ok (.istore 8, 2) := by decide +kernel
theorem d_M_rounded_ZJIZI_49 : decode b_M_rounded_ZJIZI 49 = .ok (.iload 8, 2) := by decide +kernel
theorem d_M_rounded_ZJIZI_51 : decode b_M_rounded_ZJIZI 51 = .ok (.ifCond .gt 13, 3) := by decide +kernel
theorem d_M_rounded_ZJIZI_54 : decode b_M_rounded_ZJIZI 54 = .ok (.lload_n 1, 1) := by decide +kernel
theorem d_M_rounded_ZJIZI_55 : decode b_M_rounded_ZJIZI 55 = .ok (.iload 8, 2) := by decide +kernel
theorem d_M_rounded_ZJIZI_57 : decode b_M_rounded_ZJIZI 57 = .ok (.ineg, 1) := by decide +kernel
theorem d_M_rounded_ZJIZI_58 : decode b_M_rounded_ZJIZI 58 = .ok (.lshl, 1) := by decide +kernel
theorem d_M_rounded_ZJIZI_59 : decode b_M_rounded_ZJIZI 59 = .ok (.lstore 9, 2) := by decide +kernel
theorem d_M_rounded_ZJIZI_61 : decode b_M_rounded_ZJIZI 61 = .ok (.goto 76, 3) := by decide +kernel
theorem d_M_rounded_ZJIZI_64 : decode b_M_rounded_ZJIZI 64 = .ok (.iload 8, 2) := by decide +kernel
theorem d_M_rounded_ZJIZI_66 : decode b_M_rounded_ZJIZI 66 = .ok (.bipush 63, 2) := by decide +kernel
theorem d_M_rounded_ZJIZI_68 : decode b_M_rounded_ZJIZI 68 = .ok (.if_icmp .le 9, 3) := by decide +kernel
theorem d_M_rounded_ZJIZI_71 : decode b_M_rounded_ZJIZI 71 = .ok (.lconst 0, 1) := by decide +kernel
theorem d_M_rounded_ZJIZI_72 : decode b_M_rounded_ZJIZI 72 = .ok (.lstore 9, 2) := by decide +kernel
theorem d_M_rounded_ZJIZI_74 : decode b_M_rounded_ZJIZI 74 = .ok (.goto 63, 3) := by decide +kernel
theorem d_M_rounded_ZJIZI_77 : decode b_M_rounded_ZJIZI 77 = .ok (.lload_n 1, 1) := by decide +kernel
theorem d_M_rounded_ZJIZI_78 : decode b_M_rounded_ZJIZI 78 = .ok (.iload 8, 2) := by decide +kernel
theorem d_M_rounded_ZJIZI_80 : decode b_M_rounded_ZJIZI 80 = .ok (.lshr, 1) := by decide +kernel
theorem d_M_rounded_ZJIZI_81 : decode b_M_rounded_ZJIZI 81 = .ok (.lstore 9, 2) := by decide +kernel
theorem d_M_rounded_ZJIZI_83 : decode b_M_rounded_ZJIZI 83 = .ok (.lload_n 1, 1) := by decide +kernel
theorem d_M_rounded_ZJIZI_84 : decode b_M_rounded_ZJIZI 84 = .ok (.lconst 1, 1) := by decide +kernel
theorem d_M_rounded_ZJIZI_85 : decode b_M_rounded_ZJIZI 85 = .ok (.iload 8, 2) := by decide +kernel
theorem d_M_rounded_ZJIZI_87 : decode b_M_rounded_ZJIZI 87 = .ok (.lshl, 1) := by decide +kernel
theorem d_M_rounded_ZJIZI_88 : decode b_M_rounded_ZJIZI 88 = .ok (.lconst 1, 1) := by decide +kernel
theorem d_M_rounded_ZJIZI_89 : decode b_M_rounded_ZJIZI 89 = .ok (.lsub, 1) := by decide +kernel
theorem d_M_rounded_ZJIZI_90 : decode b_M_rounded_ZJIZI 90 = .ok (.land, 1) := by decide +kernel
theorem d_M_rounded_ZJIZI_91 : decode b_M_rounded_ZJIZI 91 = .ok (.lstore 11, 2) := by decide +kernel
theorem d_M_rounded_ZJIZI_93 : decode b_M_rounded_ZJIZI 93 = .ok (.lconst 1, 1) := by decide +kernel
theorem d_M_rounded_ZJIZI_94 : decode b_M_rounded_ZJIZI 94 = .ok (.iload 8, 2) := by decide +kernel
theorem d_M_rounded_ZJIZI_96 : decode b_M_rounded_ZJIZI 96 = .ok (.iconst 1, 1) := by decide +kernel
theorem d_M_rounded_ZJIZI_97 : decode b_M_rounded_ZJIZI 97 = .ok (.isub, 1) := by decide +kernel
theorem d_M_rounded_ZJIZI_98 : decode b_M_rounded_ZJIZI 98 = .ok (.lshl, 1) := by decide +kernel
theorem d_M_rounded_ZJIZI_99 : decode b_M_rounded_ZJIZI 99 = .ok (.lstore 13, 2) := by decide +kernel
theorem d_M_rounded_ZJIZI_101 : decode b_M_rounded_ZJIZI 101 = .ok (.lload 11, 2) := by decide +kernel
theorem d_M_rounded_ZJIZI_103 : decode b_M_rounded_ZJIZI 103 = .ok (.lload 13, 2) := by decide +kernel
theorem d_M_rounded_ZJIZI_105 : decode b_M_rounded_ZJIZI 105 = .ok (.lcmp, 1) := by decide +kernel
theorem d_M_rounded_ZJIZI_106 : decode b_M_rounded_ZJIZI 106 = .ok (.ifCond .gt 25, 3) := by decide +kernel
theorem d_M_rounded_ZJIZI_109 : decode b_M_rounded_ZJIZI 109 = .ok (.lload 11, 2) := by decide +kernel
theorem d_M_rounded_ZJIZI_111 : decode b_M_rounded_ZJIZI 111 = .ok (.lload 13, 2) := by decide +kernel
theorem d_M_rounded_ZJIZI_113 : decode b_M_rounded_ZJIZI 113 = .ok (.lcmp, 1) := by decide +kernel
theorem d_M_rounded_ZJIZI_114 : decode b_M_rounded_ZJIZI 114 = .ok (.ifCond .ne 23, 3) := by decide +kernel
theorem d_M_rounded_ZJIZI_117 : decode b_M_rounded_ZJIZI 117 = .ok (.iload 4, 2) := by decide +kernel
theorem d_M_rounded_ZJIZI_119 : decode b_M_rounded_ZJIZI 119 = .ok (.ifCond .ne 12, 3) := by decide +kernel
theorem d_M_rounded_ZJIZI_122 : decode b_M_rounded_ZJIZI 122 = .ok (.lload 9, 2) := by decide +kernel
theorem d_M_rounded_ZJIZI_124 : decode b_M_rounded_ZJIZI 124 = .ok (.lconst 1, 1) := by decide +kernel
theorem d_M_rounded_ZJIZI_125 : decode b_M_rounded_ZJIZI 125 = .ok (.land, 1) := by decide +kernel
theorem d_M_rounded_ZJIZI_126 : decode b_M_rounded_ZJIZI 126 = .ok (.lconst 1, 1) := by decide +kernel
theorem d_M_rounded_ZJIZI_127 : decode b_M_rounded_ZJIZI 127 = .ok (.lcmp, 1) := by decide +kernel
theorem d_M_rounded_ZJIZI_128 : decode b_M_rounded_ZJIZI 128 = .ok (.ifCond .ne 9, 3) := by decide +kernel
theorem d_M_rounded_ZJIZI_131 : decode b_M_rounded_ZJIZI 131 = .ok (.lload 9, 2) := by decide +kernel
theorem d_M_rounded_ZJIZI_133 : decode b_M_rounded_ZJIZI 133 = .ok (.lconst 1, 1) := by decide +kernel
theorem d_M_rounded_ZJIZI_134 : decode b_M_rounded_ZJIZI 134 = .ok (.ladd, 1) := by decide +kernel
theorem d_M_rounded_ZJIZI_135 : decode b_M_rounded_ZJIZI 135 = .ok (.lstore 9, 2) := by decide +kernel
theorem d_M_rounded_ZJIZI_137 : decode b_M_rounded_ZJIZI 137 = .ok (.iload_n 3, 1) := by decide +kernel
theorem d_M_rounded_ZJIZI_138 : decode b_M_rounded_ZJIZI 138 = .ok (.iload 8, 2) := by decide +kernel
theorem d_M_rounded_ZJIZI_140 : decode b_M_rounded_ZJIZI 140 = .ok (.iadd, 1) := by decide +kernel
theorem d_M_rounded_ZJIZI_141 : decode b_M_rounded_ZJIZI 141 = .ok (.istore 11, 2) := by decide +kernel
theorem d_M_rounded_ZJIZI_143 : decode b_M_rounded_ZJIZI 143 = .ok (.lload 9, 2) := by decide +kernel
theorem d_M_rounded_ZJIZI_145 : decode b_M_rounded_ZJIZI 145 = .ok (.iload 6, 2) := by decide +kernel
theorem d_M_rounded_ZJIZI_147 : decode b_M_rounded_ZJIZI 147 = .ok (.lshr, 1) := by decide +kernel
theorem d_M_rounded_ZJIZI_148 : decode b_M_rounded_ZJIZI 148 = .ok (.lconst 0, 1) := by decide +kernel
theorem d_M_rounded_ZJIZI_149 : decode b_M_rounded_ZJIZI 149 = .ok (.lcmp, 1) := by decide +kernel
theorem d_M_rounded_ZJIZI_150 : decode b_M_rounded_ZJIZI 150 = .ok (.ifCond .eq 12, 3) := by decide +kernel
theorem d_M_rounded_ZJIZI_153 : decode b_M_rounded_ZJIZI 153 = .ok (.lload 9, 2) := by decide +kernel
theorem d_M_rounded_ZJIZI_155 : decode b_M_rounded_ZJIZI 155 = .ok (.iconst 1, 1) := by decide +kernel
theorem d_M_rounded_ZJIZI_156 : decode b_M_rounded_ZJIZI 156 = .ok (.lshr, 1) := by decide +kernel
theorem d_M_rounded_ZJIZI_157 : decode b_M_rounded_ZJIZI 157 = .ok (.lstore 9, 2) := by decide +kernel
theorem d_M_rounded_ZJIZI_159 : decode b_M_rounded_ZJIZI 159 = .ok (.iinc 11 1, 3) := by decide +kernel
theorem d_M_rounded_ZJIZI_162 : decode b_M_rounded_ZJIZI 162 = .ok (.iload 11, 2) := by decide +kernel
theorem d_M_rounded_ZJIZI_164 : decode b_M_rounded_ZJIZI 164 = .ok (.getstatic 49, 3) := by decide +kernel
theorem d_M_rounded_ZJIZI_167 : decode b_M_rounded_ZJIZI 167 = .ok (.iload 5, 2) := by decide +kernel
theorem d_M_rounded_ZJIZI_169 : decode b_M_rounded_ZJIZI 169 = .ok (.iaload, 1) := by decide +kernel
theorem d_M_rounded_ZJIZI_170 : decode b_M_rounded_ZJIZI 170 = .ok (.if_icmp .le 15, 3) := by decide +kernel
theorem d_M_rounded_ZJIZI_173 : decode b_M_rounded_ZJIZI 173 = .ok (.iload 5, 2) := by decide +kernel
theorem d_M_rounded_ZJIZI_175 : decode b_M_rounded_ZJIZI 175 = .ok (.invokestatic 19, 3) := by decide +kernel
theorem d_M_rounded_ZJIZI_178 : decode b_M_rounded_ZJIZI 178 = .ok (.iload_n 0, 1) := by decide +kernel
theorem d_M_rounded_ZJIZI_179 : decode b_M_rounded_ZJIZI 179 = .ok (.iload 5, 2) := by decide +kernel
theorem d_M_rounded_ZJIZI_181 : decode b_M_rounded_ZJIZI 181 = .ok (.invokestatic 36, 3) := by decide +kernel
theorem d_M_rounded_ZJIZI_184 : decode b_M_rounded_ZJIZI 184 = .ok (.lreturn, 1) := by decide +kernel
theorem d_M_rounded_ZJIZI_185 : decode b_M_rounded_ZJIZI 185 = .ok (.lload 9, 2) := by decide +kernel
theorem d_M_rounded_ZJIZI_187 : decode b_M_rounded_ZJIZI 187 = .ok (.iload 6, 2) := by decide +kernel
theorem d_M_rounded_ZJIZI_189 : decode b_M_rounded_ZJIZI 189 = .ok (.iconst 1, 1) := by decide +kernel
theorem d_M_rounded_ZJIZI_190 : decode b_M_rounded_ZJIZI 190 = .ok (.isub, 1) := by decide +kernel
theorem d_M_rounded_ZJIZI_191 : decode b_M_rounded_ZJIZI 191 = .ok (.lshr, 1) := by decide +kernel
theorem d_M_rounded_ZJIZI_192 : decode b_M_rounded_ZJIZI 192 = .ok (.lconst 0, 1) := by decide +kernel
theorem d_M_rounded_ZJIZI_193 : decode b_M_rounded_ZJIZI 193 = .ok (.lcmp, 1) := by decide +kernel
theorem d_M_rounded_ZJIZI_194 : decode b_M_rounded_ZJIZI 194 = .ok (.ifCond .ne 8, 3) := by decide +kernel
theorem d_M_rounded_ZJIZI_197 : decode b_M_rounded_ZJIZI 197 = .ok (.lload 9, 2) := by decide +kernel
theorem d_M_rounded_ZJIZI_199 : decode b_M_rounded_ZJIZI 199 = .ok (.goto 32, 3) := by decide +kernel
theorem d_M_rounded_ZJIZI_202 : decode b_M_rounded_ZJIZI 202 = .ok (.iload 11, 2) := by decide +kernel
theorem d_M_rounded_ZJIZI_204 : decode b_M_rounded_ZJIZI 204 = .ok (.getstatic 27, 3) := by decide +kernel
theorem d_M_rounded_ZJIZI_207 : decode b_M_rounded_ZJIZI 207 = .ok (.iload 5, 2) := by decide +kernel
theorem d_M_rounded_ZJIZI_209 : decode b_M_rounded_ZJIZI 209 = .ok (.iaload, 1) := by decide +kernel
theorem d_M_rounded_ZJIZI_210 : decode b_M_rounded_ZJIZI 210 = .ok (.isub, 1) := by decide +kernel
theorem d_M_rounded_ZJIZI_211 : decode b_M_rounded_ZJIZI 211 = .ok (.iconst 1, 1) := by decide +kernel
theorem d_M_rounded_ZJIZI_212 : decode b_M_rounded_ZJIZI 212 = .ok (.iadd, 1) := by decide +kernel
theorem d_M_rounded_ZJIZI_213 : decode b_M_rounded_ZJIZI 213 = .ok (.i2l, 1) := by decide +kernel
theorem d_M_rounded_ZJIZI_214 : decode b_M_rounded_ZJIZI 214 = .ok (.iload 6, 2) := by decide +kernel
theorem d_M_rounded_ZJIZI_216 : decode b_M_rounded_ZJIZI 216 = .ok (.iconst 1, 1) := by decide +kernel
theorem d_M_rounded_ZJIZI_217 : decode b_M_rounded_ZJIZI 217 = .ok (.isub, 1) := by decide +kernel
theorem d_M_rounded_ZJIZI_218 : decode b_M_rounded_ZJIZI 218 = .ok (.lshl, 1) := by decide +kernel
theorem d_M_rounded_ZJIZI_219 : decode b_M_rounded_ZJIZI 219 = .ok (.lload 9, 2) := by decide +kernel
theorem d_M_rounded_ZJIZI_221 : decode b_M_rounded_ZJIZI 221 = .ok (.lconst 1, 1) := by decide +kernel
theorem d_M_rounded_ZJIZI_222 : decode b_M_rounded_ZJIZI 222 = .ok (.iload 6, 2) := by decide +kernel
theorem d_M_rounded_ZJIZI_224 : decode b_M_rounded_ZJIZI 224 = .ok (.iconst 1, 1) := by decide +kernel
theorem d_M_rounded_ZJIZI_225 : decode b_M_rounded_ZJIZI 225 = .ok (.isub, 1) := by decide +kernel
theorem d_M_rounded_ZJIZI_226 : decode b_M_rounded_ZJIZI 226 = .ok (.lshl, 1) := by decide +kernel
theorem d_M_rounded_ZJIZI_227 : decode b_M_rounded_ZJIZI 227 = .ok (.lconst 1, 1) := by decide +kernel
theorem d_M_rounded_ZJIZI_228 : decode b_M_rounded_ZJIZI 228 = .ok (.lsub, 1) := by decide +kernel
theorem d_M_rounded_ZJIZI_229 : decode b_M_rounded_ZJIZI 229 = .ok (.land, 1) := by decide +kernel
theorem d_M_rounded_ZJIZI_230 : decode b_M_rounded_ZJIZI 230 = .ok (.lor, 1) := by decide +kernel
theorem d_M_rounded_ZJIZI_231 : decode b_M_rounded_ZJIZI 231 = .ok (.lstore 12, 2) := by decide +kernel
theorem d_M_rounded_ZJIZI_233 : decode b_M_rounded_ZJIZI 233 = .ok (.lload 12, 2) := by decide +kernel
theorem d_M_rounded_ZJIZI_235 : decode b_M_rounded_ZJIZI 235 = .ok (.iload_n 0, 1) := by decide +kernel
theorem d_M_rounded_ZJIZI_236 : decode b_M_rounded_ZJIZI 236 = .ok (.iload 5, 2) := by decide +kernel
theorem d_M_rounded_ZJIZI_238 : decode b_M_rounded_ZJIZI 238 = .ok (.invokestatic 36, 3) := by decide +kernel
theorem d_M_rounded_ZJIZI_241 : decode b_M_rounded_ZJIZI 241 = .ok (.lreturn, 1) := by decide +kernel
def f_M_rounded_ZJIZI_162 (x0 : Int32) (x5 : Int32) (x6 : Int32) (x9 : Int64) (x11 : Int32) : Int64 :=
  if x11 ≤ (tG_at x5) then
    if (lg_cmp (j_shr x9 (x6 - (1 : Int32))) (0 : Int64)) = 0 then
      f_M_signed_JZI x9 x0 x5
    else
      let v3 : Int64 := (j_shl (((x11 - (tL_at x5)) + (1 : Int32)).toInt64) (x6 - (1 : Int32))) ||| (x9 &&& ((j_shl (1 : Int64) (x6 - (1 : Int32))) - (1 : Int64)))
      f_M_signed_JZI v3 x0 x5
  else
    f_M_signed_JZI (f_M_infinite_I x5) x0 x5
set_option maxHeartbeats 4000000 in
set_option maxRecDepth 100000 in
theorem k_M_rounded_ZJIZI_162 {p : Program} {l : Launch} {e : Env} {s : State} {m : MethodId} {args : Array Value} {below : List Frame} {meth : Method} {c : Code} (C0 : pu_C p s m args meth c b_M_rounded_ZJIZI 15 "MotionLabModel" (some .long) (gw y_M_rounded_ZJIZI b_M_rounded_ZJIZI 15 (some .long))) {t0 t1 t2 : Nat} (hRT : RTH t0 t1 t2 s s.heap) (x0 : Int32) (x5 : Int32) (x6 : Int32) (x9 : Int64) (x11 : Int32) (hk_x5 : vp_in x5 2) (ls : Array Slot) (hl : lv_has ls 15 [(0, .int x0), (5, .int x5), (6, .int x6), (9, .long x9), (11, .int x11)]) {w : Int64} (hw : w = f_M_rounded_ZJIZI_162 x0 x5 x6 x9 x11) : W p l e (headSpec (gw y_M_rounded_ZJIZI b_M_rounded_ZJIZI 15 (some .long)) ({ frames := 2, cells := 0, slots := 0, locals := 43 } : Room)).room s m args below meth c s.heap [] 0 0 (pu_Ql w below args s) (F0 m 162 ls []) := by
  obtain ⟨hx, hb, hml, hown, hts, hr, hlocks⟩ := id C0
  obtain ⟨hT0, hT1, hT2⟩ := id hRT
  refine lv_iload hx hb d_M_rounded_ZJIZI_162 (lv_at hl 4 rfl) ?_
  refine va_gets hx hb hT2.1 va_S.rf hown (hts _ (gm tw_544)) (fun _ h9 => h9) d_M_rounded_ZJIZI_164 ?_
  refine lv_iload hx hb d_M_rounded_ZJIZI_167 (lv_at hl 1 rfl) ?_
  refine va_ti hx hb hT2.2 va_S.rf hk_x5 (v := .int (tG_at x5)) rfl d_M_rounded_ZJIZI_169 ?_
  refine lv_icmp_le (tgt := 185) hx hb d_M_rounded_ZJIZI_170 (by decide) (fun c1 => ?_) (fun c1 => ?_)
  · refine lv_lload hx hb d_M_rounded_ZJIZI_185 (lv_at hl 3 rfl) ?_
    refine lv_iload hx hb d_M_rounded_ZJIZI_187 (lv_at hl 2 rfl) ?_
    refine lv_iconst (v := 1) hx hb d_M_rounded_ZJIZI_189 (by decide) ?_
    refine lv_isub hx hb d_M_rounded_ZJIZI_190 ?_
    refine lv_lshr (v := j_shr x9 (x6 - (1 : Int32))) hx hb d_M_rounded_ZJIZI_191 rfl ?_
    refine lv_lconst (v := (0 : Int64)) hx hb d_M_rounded_ZJIZI_192 (by decide) ?_
    refine W.lcmp hx hb d_M_rounded_ZJIZI_193 ?_
    refine lv_if_ne (tgt := 202) hx hb d_M_rounded_ZJIZI_194 (by decide) (fun c2 => ?_) (fun c2 => ?_)
    · refine lv_iload hx hb d_M_rounded_ZJIZI_202 (lv_at hl 4 rfl) ?_
      refine va_gets hx hb hT1.1 va_S.rf hown (hts _ (gm tw_533)) (fun _ h9 => h9) d_M_rounded_ZJIZI_204 ?_
      refine lv_iload hx hb d_M_rounded_ZJIZI_207 (lv_at hl 1 rfl) ?_
      refine va_ti hx hb hT1.2 va_S.rf hk_x5 (v := .int (tL_at x5)) rfl d_M_rounded_ZJIZI_209 ?_
      refine lv_isub hx hb d_M_rounded_ZJIZI_210 ?_
      refine lv_iconst (v := 1) hx hb d_M_rounded_ZJIZI_211 (by decide) ?_
      refine lv_iadd hx hb d_M_rounded_ZJIZI_212 ?_
      refine lv_i2l hx hb d_M_rounded_ZJIZI_213 rfl ?_
      refine lv_iload hx hb d_M_rounded_ZJIZI_214 (lv_at hl 2 rfl) ?_
      refine lv_iconst (v := 1) hx hb d_M_rounded_ZJIZI_216 (by decide) ?_
      refine lv_isub hx hb d_M_rounded_ZJIZI_217 ?_
      refine lv_lshl (v := j_shl (((x11 - (tL_at x5)) + (1 : Int32)).toInt64) (x6 - (1 : Int32))) hx hb d_M_rounded_ZJIZI_218 rfl ?_
      refine lv_lload hx hb d_M_rounded_ZJIZI_219 (lv_at hl 3 rfl) ?_
      refine lv_lconst (v := (1 : Int64)) hx hb d_M_rounded_ZJIZI_221 (by decide) ?_
      refine lv_iload hx hb d_M_rounded_ZJIZI_222 (lv_at hl 2 rfl) ?_
      refine lv_iconst (v := 1) hx hb d_M_rounded_ZJIZI_224 (by decide) ?_
      refine lv_isub hx hb d_M_rounded_ZJIZI_225 ?_
      refine lv_lshl (v := j_shl (1 : Int64) (x6 - (1 : Int32))) hx hb d_M_rounded_ZJIZI_226 rfl ?_
      refine lv_lconst (v := (1 : Int64)) hx hb d_M_rounded_ZJIZI_227 (by decide) ?_
      refine lv_lsub hx hb d_M_rounded_ZJIZI_228 ?_
      refine lv_land hx hb d_M_rounded_ZJIZI_229 ?_
      refine lv_lor hx hb d_M_rounded_ZJIZI_230 ?_
      refine lv_topl (fun v3 e3 => ?_)
      refine lv_lstore (lv' := [(12, .long v3), (0, .int x0), (5, .int x5), (6, .int x6), (9, .long x9), (11, .int x11)]) hx hb d_M_rounded_ZJIZI_231 hl (by decide) rfl (fun ls hl => ?_)
      refine lv_lload hx hb d_M_rounded_ZJIZI_233 (lv_at hl 0 rfl) ?_
      refine lv_iload_n hx hb d_M_rounded_ZJIZI_235 rfl (lv_at hl 1 rfl) ?_
      refine lv_iload hx hb d_M_rounded_ZJIZI_236 (lv_at hl 2 rfl) ?_
      refine pu_l (As := [.long v3, .int x0, .int x5]) (rest := []) ⟨hx, hb, hml, hown, hts⟩ (c_M_signed_JZI l _ v3 x0 x5) pu_pre (gw_call (k := 3) hts tw_522 tw_523 tw_4 tw_524 (by decide +kernel) rfl rfl ⟨Nat.le_of_ble_eq_true rfl, Nat.le_of_ble_eq_true rfl⟩) rfl hl.1 rfl (Nat.le_of_ble_eq_true rfl) ⟨Nat.zero_le _, Nat.zero_le _⟩ d_M_rounded_ZJIZI_238 ?_
      exact pu_lret hx hb hr hlocks d_M_rounded_ZJIZI_241 (by have qe3 := e3.symm; subst qe3; exact Eq.symm (hw.trans (Eq.trans (if_pos c1) (if_neg c2))))
    · refine lv_lload hx hb d_M_rounded_ZJIZI_197 (lv_at hl 3 rfl) ?_
      refine lv_goto (tgt := 231) hx hb d_M_rounded_ZJIZI_199 (by decide) ?_
      refine lv_lstore (lv' := [(12, .long x9), (0, .int x0), (5, .int x5), (6, .int x6), (9, .long x9), (11, .int x11)]) hx hb d_M_rounded_ZJIZI_231 hl (by decide) rfl (fun ls hl => ?_)
      refine lv_lload hx hb d_M_rounded_ZJIZI_233 (lv_at hl 0 rfl) ?_
      refine lv_iload_n hx hb d_M_rounded_ZJIZI_235 rfl (lv_at hl 1 rfl) ?_
      refine lv_iload hx hb d_M_rounded_ZJIZI_236 (lv_at hl 2 rfl) ?_
      refine pu_l (As := [.long x9, .int x0, .int x5]) (rest := []) ⟨hx, hb, hml, hown, hts⟩ (c_M_signed_JZI l _ x9 x0 x5) pu_pre (gw_call (k := 3) hts tw_522 tw_523 tw_4 tw_524 (by decide +kernel) rfl rfl ⟨Nat.le_of_ble_eq_true rfl, Nat.le_of_ble_eq_true rfl⟩) rfl hl.1 rfl (Nat.le_of_ble_eq_true rfl) ⟨Nat.zero_le _, Nat.zero_le _⟩ d_M_rounded_ZJIZI_238 ?_
      exact pu_lret hx hb hr hlocks d_M_rounded_ZJIZI_241 (by exact Eq.symm (hw.trans (Eq.trans (if_pos c1) (if_pos c2))))
  · refine lv_iload hx hb d_M_rounded_ZJIZI_173 (lv_at hl 1 rfl) ?_
    refine pu_l (As := [.int x5]) (rest := []) ⟨hx, hb, hml, hown, hts⟩ (c_M_infinite_I l _ x5) pu_pre (gw_call (k := 1) hts tw_507 tw_508 tw_4 tw_509 (by decide +kernel) rfl rfl ⟨Nat.le_of_ble_eq_true rfl, Nat.le_of_ble_eq_true rfl⟩) rfl hl.1 rfl (Nat.le_of_ble_eq_true rfl) ⟨Nat.zero_le _, Nat.zero_le _⟩ d_M_rounded_ZJIZI_175 ?_
    refine lv_iload_n hx hb d_M_rounded_ZJIZI_178 rfl (lv_at hl 0 rfl) ?_
    refine lv_iload hx hb d_M_rounded_ZJIZI_179 (lv_at hl 1 rfl) ?_
    refine pu_l (As := [.long (f_M_infinite_I x5), .int x0, .int x5]) (rest := []) ⟨hx, hb, hml, hown, hts⟩ (c_M_signed_JZI l _ (f_M_infinite_I x5) x0 x5) pu_pre (gw_call (k := 3) hts tw_522 tw_523 tw_4 tw_524 (by decide +kernel) rfl rfl ⟨Nat.le_of_ble_eq_true rfl, Nat.le_of_ble_eq_true rfl⟩) rfl hl.1 rfl (Nat.le_of_ble_eq_true rfl) ⟨Nat.zero_le _, Nat.zero_le _⟩ d_M_rounded_ZJIZI_181 ?_
    exact pu_lret hx hb hr hlocks d_M_rounded_ZJIZI_184 (by exact Eq.symm (hw.trans (if_neg c1)))
def f_M_rounded_ZJIZI_137 (x0 : Int32) (x3 : Int32) (x5 : Int32) (x6 : Int32) (x8 : Int32) (x9 : Int64) : Int64 :=
  let v1 : Int32 := x3 + x8
  if (lg_cmp (j_shr x9 x6) (0 : Int64)) = 0 then
    f_M_rounded_ZJIZI_162 x0 x5 x6 x9 v1
  else
    let v3 : Int64 := j_shr x9 (1 : Int32)
    let v4 : Int32 := v1 + 1
    f_M_rounded_ZJIZI_162 x0 x5 x6 v3 v4
set_option maxHeartbeats 4000000 in
set_option maxRecDepth 100000 in
theorem k_M_rounded_ZJIZI_137 {p : Program} {l : Launch} {e : Env} {s : State} {m : MethodId} {args : Array Value} {below : List Frame} {meth : Method} {c : Code} (C0 : pu_C p s m args meth c b_M_rounded_ZJIZI 15 "MotionLabModel" (some .long) (gw y_M_rounded_ZJIZI b_M_rounded_ZJIZI 15 (some .long))) {t0 t1 t2 : Nat} (hRT : RTH t0 t1 t2 s s.heap) (x0 : Int32) (x3 : Int32) (x5 : Int32) (x6 : Int32) (x8 : Int32) (x9 : Int64) (hk_x5 : vp_in x5 2) (ls : Array Slot) (hl : lv_has ls 15 [(0, .int x0), (3, .int x3), (5, .int x5), (6, .int x6), (8, .int x8), (9, .long x9)]) {w : Int64} (hw : w = f_M_rounded_ZJIZI_137 x0 x3 x5 x6 x8 x9) : W p l e (headSpec (gw y_M_rounded_ZJIZI b_M_rounded_ZJIZI 15 (some .long)) ({ frames := 2, cells := 0, slots := 0, locals := 43 } : Room)).room s m args below meth c s.heap [] 0 0 (pu_Ql w below args s) (F0 m 137 ls []) := by
  obtain ⟨hx, hb, hml, hown, hts, hr, hlocks⟩ := id C0
  obtain ⟨hT0, hT1, hT2⟩ := id hRT
  refine lv_iload_n hx hb d_M_rounded_ZJIZI_137 rfl (lv_at hl 1 rfl) ?_
  refine lv_iload hx hb d_M_rounded_ZJIZI_138 (lv_at hl 4 rfl) ?_
  refine lv_iadd hx hb d_M_rounded_ZJIZI_140 ?_
  refine lv_topi (fun v1 e1 => ?_)
  refine lv_istore (lv' := [(11, .int v1), (0, .int x0), (3, .int x3), (5, .int x5), (6, .int x6), (8, .int x8), (9, .long x9)]) hx hb d_M_rounded_ZJIZI_141 hl (by decide) rfl (fun ls hl => ?_)
  refine lv_lload hx hb d_M_rounded_ZJIZI_143 (lv_at hl 6 rfl) ?_
  refine lv_iload hx hb d_M_rounded_ZJIZI_145 (lv_at hl 4 rfl) ?_
  refine lv_lshr (v := j_shr x9 x6) hx hb d_M_rounded_ZJIZI_147 rfl ?_
  refine lv_lconst (v := (0 : Int64)) hx hb d_M_rounded_ZJIZI_148 (by decide) ?_
  refine W.lcmp hx hb d_M_rounded_ZJIZI_149 ?_
  refine lv_if_eq (tgt := 162) hx hb d_M_rounded_ZJIZI_150 (by decide) (fun c2 => ?_) (fun c2 => ?_)
  · exact k_M_rounded_ZJIZI_162 C0 hRT x0 x5 x6 x9 v1 hk_x5 ls (lv_sub hl [1, 3, 4, 6, 0] rfl) (by have qe1 := e1.symm; subst qe1; exact (hw.trans (if_pos c2)))
  · refine lv_lload hx hb d_M_rounded_ZJIZI_153 (lv_at hl 6 rfl) ?_
    refine lv_iconst (v := 1) hx hb d_M_rounded_ZJIZI_155 (by decide) ?_
    refine lv_lshr (v := j_shr x9 (1 : Int32)) hx hb d_M_rounded_ZJIZI_156 rfl ?_
    refine lv_topl (fun v3 e3 => ?_)
    refine lv_lstore (lv' := [(9, .long v3), (11, .int v1), (0, .int x0), (3, .int x3), (5, .int x5), (6, .int x6), (8, .int x8)]) hx hb d_M_rounded_ZJIZI_157 hl (by decide) rfl (fun ls hl => ?_)
    obtain ⟨v4, e4⟩ : ∃ y : Int32, y = v1 + 1 := ⟨_, rfl⟩
    refine lv_iinc (v := v4) (lv' := [(11, .int v4), (9, .long v3), (0, .int x0), (3, .int x3), (5, .int x5), (6, .int x6), (8, .int x8)]) hx hb d_M_rounded_ZJIZI_159 hl (k := 1) rfl (by rw [e4]; rfl) (by decide) rfl (fun ls hl => ?_)
    exact k_M_rounded_ZJIZI_162 C0 hRT x0 x5 x6 v3 v4 hk_x5 ls (lv_sub hl [2, 4, 5, 1, 0] rfl) (by have qe1 := e1.symm; have qe3 := e3.symm; have qe4 := e4.symm; subst qe1 qe3 qe4; exact (hw.trans (if_neg c2)))
def f_M_rounded_ZJIZI_131 (x0 : Int32) (x3 : Int32) (x5 : Int32) (x6 : Int32) (x8 : Int32) (x9 : Int64) : Int64 :=
  let v1 : Int64 := x9 + (1 : Int64)
  f_M_rounded_ZJIZI_137 x0 x3 x5 x6 x8 v1
set_option maxHeartbeats 4000000 in
set_option maxRecDepth 100000 in
theorem k_M_rounded_ZJIZI_131 {p : Program} {l : Launch} {e : Env} {s : State} {m : MethodId} {args : Array Value} {below : List Frame} {meth : Method} {c : Code} (C0 : pu_C p s m args meth c b_M_rounded_ZJIZI 15 "MotionLabModel" (some .long) (gw y_M_rounded_ZJIZI b_M_rounded_ZJIZI 15 (some .long))) {t0 t1 t2 : Nat} (hRT : RTH t0 t1 t2 s s.heap) (x0 : Int32) (x3 : Int32) (x5 : Int32) (x6 : Int32) (x8 : Int32) (x9 : Int64) (hk_x5 : vp_in x5 2) (ls : Array Slot) (hl : lv_has ls 15 [(0, .int x0), (3, .int x3), (5, .int x5), (6, .int x6), (8, .int x8), (9, .long x9)]) {w : Int64} (hw : w = f_M_rounded_ZJIZI_131 x0 x3 x5 x6 x8 x9) : W p l e (headSpec (gw y_M_rounded_ZJIZI b_M_rounded_ZJIZI 15 (some .long)) ({ frames := 2, cells := 0, slots := 0, locals := 43 } : Room)).room s m args below meth c s.heap [] 0 0 (pu_Ql w below args s) (F0 m 131 ls []) := by
  obtain ⟨hx, hb, hml, hown, hts, hr, hlocks⟩ := id C0
  obtain ⟨hT0, hT1, hT2⟩ := id hRT
  refine lv_lload hx hb d_M_rounded_ZJIZI_131 (lv_at hl 5 rfl) ?_
  refine lv_lconst (v := (1 : Int64)) hx hb d_M_rounded_ZJIZI_133 (by decide) ?_
  refine lv_ladd hx hb d_M_rounded_ZJIZI_134 ?_
  refine lv_topl (fun v1 e1 => ?_)
  refine lv_lstore (lv' := [(9, .long v1), (0, .int x0), (3, .int x3), (5, .int x5), (6, .int x6), (8, .int x8)]) hx hb d_M_rounded_ZJIZI_135 hl (by decide) rfl (fun ls hl => ?_)
  exact k_M_rounded_ZJIZI_137 C0 hRT x0 x3 x5 x6 x8 v1 hk_x5 ls (lv_sub hl [1, 2, 3, 4, 5, 0] rfl) (by have qe1 := e1.symm; subst qe1; exact (hw.trans rfl))
def f_M_rounded_ZJIZI (x0 : Int32) (x1 : Int64) (x3 : Int32) (x4 : Int32) (x5 : Int32) : Int64 :=
  if (lg_cmp x1 (0 : Int64)) = 0 then
    f_M_signed_JZI (0 : Int64) x0 x5
  else
    let v2 : Int32 := tP_at x5
    let v3 : Int32 := (64 : Int32) - (f_jL_numberOfLeadingZeros_J x1)
    let v4 : Int32 := f_jM_max_II (v3 - v2) ((tL_at x5) - x3)
    if 0 < v4 then
      if v4 ≤ (63 : Int32) then
        let v7 : Int64 := j_shr x1 v4
        let v8 : Int64 := x1 &&& ((j_shl (1 : Int64) v4) - (1 : Int64))
        let v9 : Int64 := j_shl (1 : Int64) (v4 - (1 : Int32))
        if 0 < (lg_cmp v8 v9) then
          f_M_rounded_ZJIZI_131 x0 x3 x5 v2 v4 v7
        else
          if (lg_cmp v8 v9) = 0 then
            if x4 = 0 then
              if (lg_cmp (v7 &&& (1 : Int64)) (1 : Int64)) = 0 then
                f_M_rounded_ZJIZI_131 x0 x3 x5 v2 v4 v7
              else
                f_M_rounded_ZJIZI_137 x0 x3 x5 v2 v4 v7
            else
              f_M_rounded_ZJIZI_131 x0 x3 x5 v2 v4 v7
          else
            f_M_rounded_ZJIZI_137 x0 x3 x5 v2 v4 v7
      else
        f_M_rounded_ZJIZI_137 x0 x3 x5 v2 v4 (0 : Int64)
    else
      let v14 : Int64 := j_shl x1 (-v4)
      f_M_rounded_ZJIZI_137 x0 x3 x5 v2 v4 v14
set_option maxHeartbeats 4000000 in
set_option maxRecDepth 100000 in
theorem c_M_rounded_ZJIZI (l : Launch) (h : Heap) (t0 t1 t2 : Nat) (x0 : Int32) (x1 : Int64) (x3 : Int32) (x4 : Int32) (x5 : Int32) (hk_x5 : vp_in x5 2) : Met l y_M_rounded_ZJIZI (gw y_M_rounded_ZJIZI b_M_rounded_ZJIZI 15 (some .long)) { frames := 2, cells := 0, slots := 0, locals := 43 } (pr_Pc [.int x0, .long x1, .int x3, .int x4, .int x5] h t0 t1 t2) (pu_Ml (f_M_rounded_ZJIZI x0 x1 x3 x4 x5) h) 0 0 (fun _ => False) := by
  refine Met.ofW (cc := b_M_rounded_ZJIZI) (maxL := 15) (ret := (some .long)) (by decide) rfl ?_
  intro p e s m args below meth c s₁ B hml hv
  obtain ⟨rfl, hh, hRT⟩ := hv
  subst hh
  obtain ⟨hT0, hT1, hT2⟩ := id hRT
  have hx := B.exec
  have hb := B.bytes
  have hr := B.returns
  have hts := atoms_spec (ws := (gw y_M_rounded_ZJIZI b_M_rounded_ZJIZI 15 (some .long))) B.pre
  have hown : s.vm.findClass "MotionLabModel" = some m.cls := findClass_of_methodNamed B.named
  have hlocks := B.notSynchronized
  have C0 : pu_C p s m _ meth c b_M_rounded_ZJIZI 15 "MotionLabModel" (some .long) (gw y_M_rounded_ZJIZI b_M_rounded_ZJIZI 15 (some .long)) := ⟨hx, hb, hml, hown, hts, hr, hlocks⟩
  have hl := lv_entry ([.int x0, .long x1, .int x3, .int x4, .int x5]) (n := 15) (Nat.le_of_ble_eq_true rfl)
  rw [lg_entry_eq]
  generalize (lg_sl ([.int x0, .long x1, .int x3, .int x4, .int x5]) ++ List.replicate (15 - (lg_sl ([.int x0, .long x1, .int x3, .int x4, .int x5])).length) Slot.unset).toArray = ls at hl ⊢
  have hl : lv_has ls 15 [(0, .int x0), (1, .long x1), (3, .int x3), (4, .int x4), (5, .int x5)] := hl
  refine lv_lload_n hx hb d_M_rounded_ZJIZI_0 rfl (lv_at hl 1 rfl) ?_
  refine lv_lconst (v := (0 : Int64)) hx hb d_M_rounded_ZJIZI_1 (by decide) ?_
  refine W.lcmp hx hb d_M_rounded_ZJIZI_2 ?_
  refine lv_if_ne (tgt := 14) hx hb d_M_rounded_ZJIZI_3 (by decide) (fun c1 => ?_) (fun c1 => ?_)
  · refine va_gets hx hb hT0.1 va_S.rf hown (hts _ (gm tw_528)) (fun _ h9 => h9) d_M_rounded_ZJIZI_14 ?_
    refine lv_iload hx hb d_M_rounded_ZJIZI_17 (lv_at hl 4 rfl) ?_
    refine va_ti hx hb hT0.2 va_S.rf hk_x5 (v := .int (tP_at x5)) rfl d_M_rounded_ZJIZI_19 ?_
    refine lv_topi (fun v2 e2 => ?_)
    refine lv_istore (lv' := [(6, .int v2), (0, .int x0), (1, .long x1), (3, .int x3), (4, .int x4), (5, .int x5)]) hx hb d_M_rounded_ZJIZI_20 hl (by decide) rfl (fun ls hl => ?_)
    refine lv_bipush (v := (64 : Int32)) hx hb d_M_rounded_ZJIZI_22 (by decide) ?_
    refine lv_lload_n hx hb d_M_rounded_ZJIZI_24 rfl (lv_at hl 2 rfl) ?_
    refine pu_i (As := [.long x1]) (rest := [.int (64 : Int32)]) ⟨hx, hb, hml, hown, hts⟩ (c_jL_numberOfLeadingZeros_J l _ x1) pu_pre (gw_call (k := 1) hts tw_542 tw_109 tw_7 tw_110 (by decide +kernel) rfl rfl ⟨Nat.le_of_ble_eq_true rfl, Nat.le_of_ble_eq_true rfl⟩) rfl hl.1 rfl (Nat.le_of_ble_eq_true rfl) ⟨Nat.zero_le _, Nat.zero_le _⟩ d_M_rounded_ZJIZI_25 ?_
    refine lv_isub hx hb d_M_rounded_ZJIZI_28 ?_
    refine lv_topi (fun v3 e3 => ?_)
    refine lv_istore (lv' := [(7, .int v3), (6, .int v2), (0, .int x0), (1, .long x1), (3, .int x3), (4, .int x4), (5, .int x5)]) hx hb d_M_rounded_ZJIZI_29 hl (by decide) rfl (fun ls hl => ?_)
    refine lv_iload hx hb d_M_rounded_ZJIZI_31 (lv_at hl 0 rfl) ?_
    refine lv_iload hx hb d_M_rounded_ZJIZI_33 (lv_at hl 1 rfl) ?_
    refine lv_isub hx hb d_M_rounded_ZJIZI_35 ?_
    refine va_gets hx hb hT1.1 va_S.rf hown (hts _ (gm tw_533)) (fun _ h9 => h9) d_M_rounded_ZJIZI_36 ?_
    refine lv_iload hx hb d_M_rounded_ZJIZI_39 (lv_at hl 6 rfl) ?_
    refine va_ti hx hb hT1.2 va_S.rf hk_x5 (v := .int (tL_at x5)) rfl d_M_rounded_ZJIZI_41 ?_
    refine lv_iload_n hx hb d_M_rounded_ZJIZI_42 rfl (lv_at hl 4 rfl) ?_
    refine lv_isub hx hb d_M_rounded_ZJIZI_43 ?_
    refine pu_i (As := [.int (v3 - v2), .int ((tL_at x5) - x3)]) (rest := []) ⟨hx, hb, hml, hown, hts⟩ (c_jM_max_II l _ (v3 - v2) ((tL_at x5) - x3)) pu_pre (gw_call (k := 2) hts tw_543 tw_98 tw_6 tw_99 (by decide +kernel) rfl rfl ⟨Nat.le_of_ble_eq_true rfl, Nat.le_of_ble_eq_true rfl⟩) rfl hl.1 rfl (Nat.le_of_ble_eq_true rfl) ⟨Nat.zero_le _, Nat.zero_le _⟩ d_M_rounded_ZJIZI_44 ?_
    refine lv_topi (fun v4 e4 => ?_)
    refine lv_istore (lv' := [(8, .int v4), (7, .int v3), (6, .int v2), (0, .int x0), (1, .long x1), (3, .int x3), (4, .int x4), (5, .int x5)]) hx hb d_M_rounded_ZJIZI_47 hl (by decide) rfl (fun ls hl => ?_)
    refine lv_iload hx hb d_M_rounded_ZJIZI_49 (lv_at hl 0 rfl) ?_
    refine lv_if_gt (tgt := 64) hx hb d_M_rounded_ZJIZI_51 (by decide) (fun c5 => ?_) (fun c5 => ?_)
    · refine lv_iload hx hb d_M_rounded_ZJIZI_64 (lv_at hl 0 rfl) ?_
      refine lv_bipush (v := (63 : Int32)) hx hb d_M_rounded_ZJIZI_66 (by decide) ?_
      refine lv_icmp_le (tgt := 77) hx hb d_M_rounded_ZJIZI_68 (by decide) (fun c6 => ?_) (fun c6 => ?_)
      · refine lv_lload_n hx hb d_M_rounded_ZJIZI_77 rfl (lv_at hl 4 rfl) ?_
        refine lv_iload hx hb d_M_rounded_ZJIZI_78 (lv_at hl 0 rfl) ?_
        refine lv_lshr (v := j_shr x1 v4) hx hb d_M_rounded_ZJIZI_80 rfl ?_
        refine lv_topl (fun v7 e7 => ?_)
        refine lv_lstore (lv' := [(9, .long v7), (8, .int v4), (7, .int v3), (6, .int v2), (0, .int x0), (1, .long x1), (3, .int x3), (4, .int x4), (5, .int x5)]) hx hb d_M_rounded_ZJIZI_81 hl (by decide) rfl (fun ls hl => ?_)
        refine lv_lload_n hx hb d_M_rounded_ZJIZI_83 rfl (lv_at hl 5 rfl) ?_
        refine lv_lconst (v := (1 : Int64)) hx hb d_M_rounded_ZJIZI_84 (by decide) ?_
        refine lv_iload hx hb d_M_rounded_ZJIZI_85 (lv_at hl 1 rfl) ?_
        refine lv_lshl (v := j_shl (1 : Int64) v4) hx hb d_M_rounded_ZJIZI_87 rfl ?_
        refine lv_lconst (v := (1 : Int64)) hx hb d_M_rounded_ZJIZI_88 (by decide) ?_
        refine lv_lsub hx hb d_M_rounded_ZJIZI_89 ?_
        refine lv_land hx hb d_M_rounded_ZJIZI_90 ?_
        refine lv_topl (fun v8 e8 => ?_)
        refine lv_lstore (lv' := [(11, .long v8), (9, .long v7), (8, .int v4), (7, .int v3), (6, .int v2), (0, .int x0), (1, .long x1), (3, .int x3), (4, .int x4), (5, .int x5)]) hx hb d_M_rounded_ZJIZI_91 hl (by decide) rfl (fun ls hl => ?_)
        refine lv_lconst (v := (1 : Int64)) hx hb d_M_rounded_ZJIZI_93 (by decide) ?_
        refine lv_iload hx hb d_M_rounded_ZJIZI_94 (lv_at hl 2 rfl) ?_
        refine lv_iconst (v := 1) hx hb d_M_rounded_ZJIZI_96 (by decide) ?_
        refine lv_isub hx hb d_M_rounded_ZJIZI_97 ?_
        refine lv_lshl (v := j_shl (1 : Int64) (v4 - (1 : Int32))) hx hb d_M_rounded_ZJIZI_98 rfl ?_
        refine lv_topl (fun v9 e9 => ?_)
        refine lv_lstore (lv' := [(13, .long v9), (11, .long v8), (9, .long v7), (8, .int v4), (7, .int v3), (6, .int v2), (0, .int x0), (1, .long x1), (3, .int x3), (4, .int x4), (5, .int x5)]) hx hb d_M_rounded_ZJIZI_99 hl (by decide) rfl (fun ls hl => ?_)
        refine lv_lload hx hb d_M_rounded_ZJIZI_101 (lv_at hl 1 rfl) ?_
        refine lv_lload hx hb d_M_rounded_ZJIZI_103 (lv_at hl 0 rfl) ?_
        refine W.lcmp hx hb d_M_rounded_ZJIZI_105 ?_
        refine lv_if_gt (tgt := 131) hx hb d_M_rounded_ZJIZI_106 (by decide) (fun c10 => ?_) (fun c10 => ?_)
        · exact k_M_rounded_ZJIZI_131 C0 hRT x0 x3 x5 v2 v4 v7 hk_x5 ls (lv_sub hl [6, 8, 10, 5, 3, 2] rfl) (by have qe2 := e2.symm; have qe3 := e3.symm; have qe4 := e4.symm; have qe7 := e7.symm; have qe8 := e8.symm; have qe9 := e9.symm; subst qe2 qe3 qe4 qe7 qe8 qe9; exact (Eq.trans (if_neg c1) (Eq.trans (if_pos c5) (Eq.trans (if_pos c6) (if_pos c10)))))
        · refine lv_lload hx hb d_M_rounded_ZJIZI_109 (lv_at hl 1 rfl) ?_
          refine lv_lload hx hb d_M_rounded_ZJIZI_111 (lv_at hl 0 rfl) ?_
          refine W.lcmp hx hb d_M_rounded_ZJIZI_113 ?_
          refine lv_if_ne (tgt := 137) hx hb d_M_rounded_ZJIZI_114 (by decide) (fun c11 => ?_) (fun c11 => ?_)
          · exact k_M_rounded_ZJIZI_137 C0 hRT x0 x3 x5 v2 v4 v7 hk_x5 ls (lv_sub hl [6, 8, 10, 5, 3, 2] rfl) (by have qe2 := e2.symm; have qe3 := e3.symm; have qe4 := e4.symm; have qe7 := e7.symm; have qe8 := e8.symm; have qe9 := e9.symm; subst qe2 qe3 qe4 qe7 qe8 qe9; exact (Eq.trans (if_neg c1) (Eq.trans (if_pos c5) (Eq.trans (if_pos c6) (Eq.trans (if_neg c10) (if_neg c11))))))
          · refine lv_iload hx hb d_M_rounded_ZJIZI_117 (lv_at hl 9 rfl) ?_
            refine lv_if_ne (tgt := 131) hx hb d_M_rounded_ZJIZI_119 (by decide) (fun c12 => ?_) (fun c12 => ?_)
            · exact k_M_rounded_ZJIZI_131 C0 hRT x0 x3 x5 v2 v4 v7 hk_x5 ls (lv_sub hl [6, 8, 10, 5, 3, 2] rfl) (by have qe2 := e2.symm; have qe3 := e3.symm; have qe4 := e4.symm; have qe7 := e7.symm; have qe8 := e8.symm; have qe9 := e9.symm; subst qe2 qe3 qe4 qe7 qe8 qe9; exact (Eq.trans (if_neg c1) (Eq.trans (if_pos c5) (Eq.trans (if_pos c6) (Eq.trans (if_neg c10) (Eq.trans (if_pos c11) (if_neg c12)))))))
            · refine lv_lload hx hb d_M_rounded_ZJIZI_122 (lv_at hl 2 rfl) ?_
              refine lv_lconst (v := (1 : Int64)) hx hb d_M_rounded_ZJIZI_124 (by decide) ?_
              refine lv_land hx hb d_M_rounded_ZJIZI_125 ?_
              refine lv_lconst (v := (1 : Int64)) hx hb d_M_rounded_ZJIZI_126 (by decide) ?_
              refine W.lcmp hx hb d_M_rounded_ZJIZI_127 ?_
              refine lv_if_ne (tgt := 137) hx hb d_M_rounded_ZJIZI_128 (by decide) (fun c13 => ?_) (fun c13 => ?_)
              · exact k_M_rounded_ZJIZI_137 C0 hRT x0 x3 x5 v2 v4 v7 hk_x5 ls (lv_sub hl [6, 8, 10, 5, 3, 2] rfl) (by have qe2 := e2.symm; have qe3 := e3.symm; have qe4 := e4.symm; have qe7 := e7.symm; have qe8 := e8.symm; have qe9 := e9.symm; subst qe2 qe3 qe4 qe7 qe8 qe9; exact (Eq.trans (if_neg c1) (Eq.trans (if_pos c5) (Eq.trans (if_pos c6) (Eq.trans (if_neg c10) (Eq.trans (if_pos c11) (Eq.trans (if_pos c12) (if_neg c13))))))))
              · exact k_M_rounded_ZJIZI_131 C0 hRT x0 x3 x5 v2 v4 v7 hk_x5 ls (lv_sub hl [6, 8, 10, 5, 3, 2] rfl) (by have qe2 := e2.symm; have qe3 := e3.symm; have qe4 := e4.symm; have qe7 := e7.symm; have qe8 := e8.symm; have qe9 := e9.symm; subst qe2 qe3 qe4 qe7 qe8 qe9; exact (Eq.trans (if_neg c1) (Eq.trans (if_pos c5) (Eq.trans (if_pos c6) (Eq.trans (if_neg c10) (Eq.trans (if_pos c11) (Eq.trans (if_pos c12) (if_pos c13))))))))
      · refine lv_lconst (v := (0 : Int64)) hx hb d_M_rounded_ZJIZI_71 (by decide) ?_
        refine lv_lstore (lv' := [(9, .long (0 : Int64)), (8, .int v4), (7, .int v3), (6, .int v2), (0, .int x0), (1, .long x1), (3, .int x3), (4, .int x4), (5, .int x5)]) hx hb d_M_rounded_ZJIZI_72 hl (by decide) rfl (fun ls hl => ?_)
        refine lv_goto (tgt := 137) hx hb d_M_rounded_ZJIZI_74 (by decide) ?_
        exact k_M_rounded_ZJIZI_137 C0 hRT x0 x3 x5 v2 v4 (0 : Int64) hk_x5 ls (lv_sub hl [4, 6, 8, 3, 1, 0] rfl) (by have qe2 := e2.symm; have qe3 := e3.symm; have qe4 := e4.symm; subst qe2 qe3 qe4; exact (Eq.trans (if_neg c1) (Eq.trans (if_pos c5) (if_neg c6))))
    · refine lv_lload_n hx hb d_M_rounded_ZJIZI_54 rfl (lv_at hl 4 rfl) ?_
      refine lv_iload hx hb d_M_rounded_ZJIZI_55 (lv_at hl 0 rfl) ?_
      refine lv_ineg hx hb d_M_rounded_ZJIZI_57 ?_
      refine lv_lshl (v := j_shl x1 (-v4)) hx hb d_M_rounded_ZJIZI_58 rfl ?_
      refine lv_topl (fun v14 e14 => ?_)
      refine lv_lstore (lv' := [(9, .long v14), (8, .int v4), (7, .int v3), (6, .int v2), (0, .int x0), (1, .long x1), (3, .int x3), (4, .int x4), (5, .int x5)]) hx hb d_M_rounded_ZJIZI_59 hl (by decide) rfl (fun ls hl => ?_)
      refine lv_goto (tgt := 137) hx hb d_M_rounded_ZJIZI_61 (by decide) ?_
      exact k_M_rounded_ZJIZI_137 C0 hRT x0 x3 x5 v2 v4 v14 hk_x5 ls (lv_sub hl [4, 6, 8, 3, 1, 0] rfl) (by have qe2 := e2.symm; have qe3 := e3.symm; have qe4 := e4.symm; have qe14 := e14.symm; subst qe2 qe3 qe4 qe14; exact (Eq.trans (if_neg c1) (if_neg c5)))
  · refine lv_lconst (v := (0 : Int64)) hx hb d_M_rounded_ZJIZI_6 (by decide) ?_
    refine lv_iload_n hx hb d_M_rounded_ZJIZI_7 rfl (lv_at hl 0 rfl) ?_
    refine lv_iload hx hb d_M_rounded_ZJIZI_8 (lv_at hl 4 rfl) ?_
    refine pu_l (As := [.long (0 : Int64), .int x0, .int x5]) (rest := []) ⟨hx, hb, hml, hown, hts⟩ (c_M_signed_JZI l _ (0 : Int64) x0 x5) pu_pre (gw_call (k := 3) hts tw_522 tw_523 tw_4 tw_524 (by decide +kernel) rfl rfl ⟨Nat.le_of_ble_eq_true rfl, Nat.le_of_ble_eq_true rfl⟩) rfl hl.1 rfl (Nat.le_of_ble_eq_true rfl) ⟨Nat.zero_le _, Nat.zero_le _⟩ d_M_rounded_ZJIZI_10 ?_
    exact pu_lret hx hb hr hlocks d_M_rounded_ZJIZI_13 (by exact Eq.symm (if_pos c1))
-- ===== MotionLabModel.exact(ZJII)J
abbrev y_M_exact_ZJII : MethodName := ⟨"MotionLabModel", "exact", "(ZJII)J"⟩
abbrev b_M_exact_ZJII : ByteArray := prog_6_method_14_code
theorem d_M_exact_ZJII_0 : decode b_M_exact_ZJII 0 = .ok (.iload_n 0, 1) := by decide +kernel
theorem d_M_exact_ZJII_1 : decode b_M_exact_ZJII 1 = .ok (.lload_n 1, 1) := by decide +kernel
theorem d_M_exact_ZJII_2 : decode b_M_exact_ZJII 2 = .ok (.iload_n 3, 1) := by decide +kernel
theorem d_M_exact_ZJII_3 : decode b_M_exact_ZJII 3 = .ok (.iconst 0, 1) := by decide +kernel
theorem d_M_exact_ZJII_4 : decode b_M_exact_ZJII 4 = .ok (.iload 4, 2) := by decide +kernel
theorem d_M_exact_ZJII_6 : decode b_M_exact_ZJII 6 = .ok (.invokestatic 52, 3) := by decide +kernel
theorem d_M_exact_ZJII_9 : decode b_M_exact_ZJII 9 = .ok (.lreturn, 1) := by decide +kernel
def f_M_exact_ZJII (x0 : Int32) (x1 : Int64) (x3 : Int32) (x4 : Int32) : Int64 :=
  f_M_rounded_ZJIZI x0 x1 x3 (0 : Int32) x4
set_option maxHeartbeats 4000000 in
set_option maxRecDepth 100000 in
theorem c_M_exact_ZJII (l : Launch) (h : Heap) (t0 t1 t2 : Nat) (x0 : Int32) (x1 : Int64) (x3 : Int32) (x4 : Int32) (hk_x4 : vp_in x4 2) : Met l y_M_exact_ZJII (gw y_M_exact_ZJII b_M_exact_ZJII 5 (some .long)) { frames := 3, cells := 0, slots := 0, locals := 77 } (pr_Pc [.int x0, .long x1, .int x3, .int x4] h t0 t1 t2) (pu_Ml (f_M_exact_ZJII x0 x1 x3 x4) h) 0 0 (fun _ => False) := by
  refine Met.ofW (cc := b_M_exact_ZJII) (maxL := 5) (ret := (some .long)) (by decide) rfl ?_
  intro p e s m args below meth c s₁ B hml hv
  obtain ⟨rfl, hh, hRT⟩ := hv
  subst hh
  obtain ⟨hT0, hT1, hT2⟩ := id hRT
  have hx := B.exec
  have hb := B.bytes
  have hr := B.returns
  have hts := atoms_spec (ws := (gw y_M_exact_ZJII b_M_exact_ZJII 5 (some .long))) B.pre
  have hown : s.vm.findClass "MotionLabModel" = some m.cls := findClass_of_methodNamed B.named
  have hlocks := B.notSynchronized
  have C0 : pu_C p s m _ meth c b_M_exact_ZJII 5 "MotionLabModel" (some .long) (gw y_M_exact_ZJII b_M_exact_ZJII 5 (some .long)) := ⟨hx, hb, hml, hown, hts, hr, hlocks⟩
  have hl := lv_entry ([.int x0, .long x1, .int x3, .int x4]) (n := 5) (Nat.le_of_ble_eq_true rfl)
  rw [lg_entry_eq]
  generalize (lg_sl ([.int x0, .long x1, .int x3, .int x4]) ++ List.replicate (5 - (lg_sl ([.int x0, .long x1, .int x3, .int x4])).length) Slot.unset).toArray = ls at hl ⊢
  have hl : lv_has ls 5 [(0, .int x0), (1, .long x1), (3, .int x3), (4, .int x4)] := hl
  refine lv_iload_n hx hb d_M_exact_ZJII_0 rfl (lv_at hl 0 rfl) ?_
  refine lv_lload_n hx hb d_M_exact_ZJII_1 rfl (lv_at hl 1 rfl) ?_
  refine lv_iload_n hx hb d_M_exact_ZJII_2 rfl (lv_at hl 2 rfl) ?_
  refine lv_iconst (v := 0) hx hb d_M_exact_ZJII_3 (by decide) ?_
  refine lv_iload hx hb d_M_exact_ZJII_4 (lv_at hl 3 rfl) ?_
  refine pu_l (As := [.int x0, .long x1, .int x3, .int (0 : Int32), .int x4]) (rest := []) ⟨hx, hb, hml, hown, hts⟩ (c_M_rounded_ZJIZI l _ t0 t1 t2 x0 x1 x3 (0 : Int32) x4 hk_x4) (pr_pre hRT) (gw_call (k := 5) hts tw_539 tw_540 tw_4 tw_541 (by decide +kernel) rfl rfl ⟨Nat.le_of_ble_eq_true rfl, Nat.le_of_ble_eq_true rfl⟩) rfl hl.1 rfl (Nat.le_of_ble_eq_true rfl) ⟨Nat.zero_le _, Nat.zero_le _⟩ d_M_exact_ZJII_6 ?_
  exact pu_lret hx hb hr hlocks d_M_exact_ZJII_9 (by exact Eq.symm rfl)
-- ===== MotionLabModel.changed(JII)J
abbrev y_M_changed_JII : MethodName := ⟨"MotionLabModel", "changed", "(JII)J"⟩
abbrev b_M_changed_JII : ByteArray := prog_6_method_21_code
theorem d_M_changed_JII_0 : decode b_M_changed_JII 0 = .ok (.lload_n 0, 1) := by decide +kernel
theorem d_M_changed_JII_1 : decode b_M_changed_JII 1 = .ok (.iload_n 2, 1) := by decide +kernel
theorem d_M_changed_JII_2 : decode b_M_changed_JII 2 = .ok (.invokestatic 56, 3) := by decide +kernel
theorem d_M_changed_JII_5 : decode b_M_changed_JII 5 = .ok (.ifCond .eq 8, 3) := by decide +kernel
theorem d_M_changed_JII_8 : decode b_M_changed_JII 8 = .ok (.iload_n 3, 1) := by decide +kernel
theorem d_M_changed_JII_9 : decode b_M_changed_JII 9 = .ok (.invokestatic 60, 3) := by decide +kernel
theorem d_M_changed_JII_12 : decode b_M_changed_JII 12 = .ok (.lreturn, 1) := by decide +kernel
theorem d_M_changed_JII_13 : decode b_M_changed_JII 13 = .ok (.lload_n 0, 1) := by decide +kernel
theorem d_M_changed_JII_14 : decode b_M_changed_JII 14 = .ok (.iload_n 2, 1) := by decide +kernel
theorem d_M_changed_JII_15 : decode b_M_changed_JII 15 = .ok (.invokestatic 63, 3) := by decide +kernel
theorem d_M_changed_JII_18 : decode b_M_changed_JII 18 = .ok (.ifCond .eq 17, 3) := by decide +kernel
theorem d_M_changed_JII_21 : decode b_M_changed_JII 21 = .ok (.iload_n 3, 1) := by decide +kernel
theorem d_M_changed_JII_22 : decode b_M_changed_JII 22 = .ok (.invokestatic 19, 3) := by decide +kernel
theorem d_M_changed_JII_25 : decode b_M_changed_JII 25 = .ok (.lload_n 0, 1) := by decide +kernel
theorem d_M_changed_JII_26 : decode b_M_changed_JII 26 = .ok (.iload_n 2, 1) := by decide +kernel
theorem d_M_changed_JII_27 : decode b_M_changed_JII 27 = .ok (.invokestatic 76, 3) := by decide +kernel
theorem d_M_changed_JII_30 : decode b_M_changed_JII 30 = .ok (.iload_n 3, 1) := by decide +kernel
theorem d_M_changed_JII_31 : decode b_M_changed_JII 31 = .ok (.invokestatic 36, 3) := by decide +kernel
theorem d_M_changed_JII_34 : decode b_M_changed_JII 34 = .ok (.lreturn, 1) := by decide +kernel
theorem d_M_changed_JII_35 : decode b_M_changed_JII 35 = .ok (.lload_n 0, 1) := by decide +kernel
theorem d_M_changed_JII_36 : decode b_M_changed_JII 36 = .ok (.iload_n 2, 1) := by decide +kernel
theorem d_M_changed_JII_37 : decode b_M_changed_JII 37 = .ok (.invokestatic 76, 3) := by decide +kernel
theorem d_M_changed_JII_40 : decode b_M_changed_JII 40 = .ok (.lload_n 0, 1) := by decide +kernel
theorem d_M_changed_JII_41 : decode b_M_changed_JII 41 = .ok (.iload_n 2, 1) := by decide +kernel
theorem d_M_changed_JII_42 : decode b_M_changed_JII 42 = .ok (.invokestatic 73, 3) := by decide +kernel
theorem d_M_changed_JII_45 : decode b_M_changed_JII 45 = .ok (.lload_n 0, 1) := by decide +kernel
theorem d_M_changed_JII_46 : decode b_M_changed_JII 46 = .ok (.iload_n 2, 1) := by decide +kernel
theorem d_M_changed_JII_47 : decode b_M_changed_JII 47 = .ok (.invokestatic 69, 3) := by decide +kernel
theorem d_M_changed_JII_50 : decode b_M_changed_JII 50 = .ok (.iload_n 3, 1) := by decide +kernel
theorem d_M_changed_JII_51 : decode b_M_changed_JII 51 = .ok (.invokestatic 89, 3) := by decide +kernel
theorem d_M_changed_JII_54 : decode b_M_changed_JII 54 = .ok (.lreturn, 1) := by decide +kernel
def f_M_changed_JII (x0 : Int64) (x2 : Int32) (x3 : Int32) : Int64 :=
  if (f_M_isNone_JI x0 x2) = 0 then
    if (f_M_isInfinite_JI x0 x2) = 0 then
      f_M_exact_ZJII (f_M_minus_JI x0 x2) (f_M_whole_JI x0 x2) (f_M_power_JI x0 x2) x3
    else
      f_M_signed_JZI (f_M_infinite_I x3) (f_M_minus_JI x0 x2) x3
  else
    f_M_none_I x3
set_option maxHeartbeats 4000000 in
set_option maxRecDepth 100000 in
theorem c_M_changed_JII (l : Launch) (h : Heap) (t0 t1 t2 : Nat) (x0 : Int64) (x2 : Int32) (x3 : Int32) (hk_x2 : vp_in x2 2) (hk_x3 : vp_in x3 2) : Met l y_M_changed_JII (gw y_M_changed_JII b_M_changed_JII 4 (some .long)) { frames := 4, cells := 0, slots := 0, locals := 101 } (pr_Pc [.long x0, .int x2, .int x3] h t0 t1 t2) (pu_Ml (f_M_changed_JII x0 x2 x3) h) 0 0 (fun _ => False) := by
  refine Met.ofW (cc := b_M_changed_JII) (maxL := 4) (ret := (some .long)) (by decide) rfl ?_
  intro p e s m args below meth c s₁ B hml hv
  obtain ⟨rfl, hh, hRT⟩ := hv
  subst hh
  obtain ⟨hT0, hT1, hT2⟩ := id hRT
  have hx := B.exec
  have hb := B.bytes
  have hr := B.returns
  have hts := atoms_spec (ws := (gw y_M_changed_JII b_M_changed_JII 4 (some .long))) B.pre
  have hown : s.vm.findClass "MotionLabModel" = some m.cls := findClass_of_methodNamed B.named
  have hlocks := B.notSynchronized
  have C0 : pu_C p s m _ meth c b_M_changed_JII 4 "MotionLabModel" (some .long) (gw y_M_changed_JII b_M_changed_JII 4 (some .long)) := ⟨hx, hb, hml, hown, hts, hr, hlocks⟩
  have hl := lv_entry ([.long x0, .int x2, .int x3]) (n := 4) (Nat.le_of_ble_eq_true rfl)
  rw [lg_entry_eq]
  generalize (lg_sl ([.long x0, .int x2, .int x3]) ++ List.replicate (4 - (lg_sl ([.long x0, .int x2, .int x3])).length) Slot.unset).toArray = ls at hl ⊢
  have hl : lv_has ls 4 [(0, .long x0), (2, .int x2), (3, .int x3)] := hl
  refine lv_lload_n hx hb d_M_changed_JII_0 rfl (lv_at hl 0 rfl) ?_
  refine lv_iload_n hx hb d_M_changed_JII_1 rfl (lv_at hl 1 rfl) ?_
  refine pu_i (As := [.long x0, .int x2]) (rest := []) ⟨hx, hb, hml, hown, hts⟩ (c_M_isNone_JI l _ x0 x2) pu_pre (gw_call (k := 2) hts tw_498 tw_499 tw_4 tw_500 (by decide +kernel) rfl rfl ⟨Nat.le_of_ble_eq_true rfl, Nat.le_of_ble_eq_true rfl⟩) rfl hl.1 rfl (Nat.le_of_ble_eq_true rfl) ⟨Nat.zero_le _, Nat.zero_le _⟩ d_M_changed_JII_2 ?_
  refine lv_if_eq (tgt := 13) hx hb d_M_changed_JII_5 (by decide) (fun c1 => ?_) (fun c1 => ?_)
  · refine lv_lload_n hx hb d_M_changed_JII_13 rfl (lv_at hl 0 rfl) ?_
    refine lv_iload_n hx hb d_M_changed_JII_14 rfl (lv_at hl 1 rfl) ?_
    refine pu_i (As := [.long x0, .int x2]) (rest := []) ⟨hx, hb, hml, hown, hts⟩ (c_M_isInfinite_JI l _ x0 x2) pu_pre (gw_call (k := 2) hts tw_516 tw_517 tw_4 tw_518 (by decide +kernel) rfl rfl ⟨Nat.le_of_ble_eq_true rfl, Nat.le_of_ble_eq_true rfl⟩) rfl hl.1 rfl (Nat.le_of_ble_eq_true rfl) ⟨Nat.zero_le _, Nat.zero_le _⟩ d_M_changed_JII_15 ?_
    refine lv_if_eq (tgt := 35) hx hb d_M_changed_JII_18 (by decide) (fun c2 => ?_) (fun c2 => ?_)
    · refine lv_lload_n hx hb d_M_changed_JII_35 rfl (lv_at hl 0 rfl) ?_
      refine lv_iload_n hx hb d_M_changed_JII_36 rfl (lv_at hl 1 rfl) ?_
      refine pu_i (As := [.long x0, .int x2]) (rest := []) ⟨hx, hb, hml, hown, hts⟩ (c_M_minus_JI l _ x0 x2) pu_pre (gw_call (k := 2) hts tw_519 tw_520 tw_4 tw_521 (by decide +kernel) rfl rfl ⟨Nat.le_of_ble_eq_true rfl, Nat.le_of_ble_eq_true rfl⟩) rfl hl.1 rfl (Nat.le_of_ble_eq_true rfl) ⟨Nat.zero_le _, Nat.zero_le _⟩ d_M_changed_JII_37 ?_
      refine lv_lload_n hx hb d_M_changed_JII_40 rfl (lv_at hl 0 rfl) ?_
      refine lv_iload_n hx hb d_M_changed_JII_41 rfl (lv_at hl 1 rfl) ?_
      refine pu_l (As := [.long x0, .int x2]) (rest := [.int (f_M_minus_JI x0 x2)]) ⟨hx, hb, hml, hown, hts⟩ (c_M_whole_JI l _ t0 t1 t2 x0 x2 hk_x2) (pr_pre hRT) (gw_call (k := 2) hts tw_525 tw_526 tw_4 tw_527 (by decide +kernel) rfl rfl ⟨Nat.le_of_ble_eq_true rfl, Nat.le_of_ble_eq_true rfl⟩) rfl hl.1 rfl (Nat.le_of_ble_eq_true rfl) ⟨Nat.zero_le _, Nat.zero_le _⟩ d_M_changed_JII_42 ?_
      refine lv_lload_n hx hb d_M_changed_JII_45 rfl (lv_at hl 0 rfl) ?_
      refine lv_iload_n hx hb d_M_changed_JII_46 rfl (lv_at hl 1 rfl) ?_
      refine pu_i (As := [.long x0, .int x2]) (rest := [.long (f_M_whole_JI x0 x2), .int (f_M_minus_JI x0 x2)]) ⟨hx, hb, hml, hown, hts⟩ (c_M_power_JI l _ t0 t1 t2 x0 x2 hk_x2) (pr_pre hRT) (gw_call (k := 2) hts tw_530 tw_531 tw_4 tw_532 (by decide +kernel) rfl rfl ⟨Nat.le_of_ble_eq_true rfl, Nat.le_of_ble_eq_true rfl⟩) rfl hl.1 rfl (Nat.le_of_ble_eq_true rfl) ⟨Nat.zero_le _, Nat.zero_le _⟩ d_M_changed_JII_47 ?_
      refine lv_iload_n hx hb d_M_changed_JII_50 rfl (lv_at hl 2 rfl) ?_
      refine pu_l (As := [.int (f_M_minus_JI x0 x2), .long (f_M_whole_JI x0 x2), .int (f_M_power_JI x0 x2), .int x3]) (rest := []) ⟨hx, hb, hml, hown, hts⟩ (c_M_exact_ZJII l _ t0 t1 t2 (f_M_minus_JI x0 x2) (f_M_whole_JI x0 x2) (f_M_power_JI x0 x2) x3 hk_x3) (pr_pre hRT) (gw_call (k := 4) hts tw_536 tw_537 tw_4 tw_538 (by decide +kernel) rfl rfl ⟨Nat.le_of_ble_eq_true rfl, Nat.le_of_ble_eq_true rfl⟩) rfl hl.1 rfl (Nat.le_of_ble_eq_true rfl) ⟨Nat.zero_le _, Nat.zero_le _⟩ d_M_changed_JII_51 ?_
      exact pu_lret hx hb hr hlocks d_M_changed_JII_54 (by exact Eq.symm (Eq.trans (if_pos c1) (if_pos c2)))
    · refine lv_iload_n hx hb d_M_changed_JII_21 rfl (lv_at hl 2 rfl) ?_
      refine pu_l (As := [.int x3]) (rest := []) ⟨hx, hb, hml, hown, hts⟩ (c_M_infinite_I l _ x3) pu_pre (gw_call (k := 1) hts tw_507 tw_508 tw_4 tw_509 (by decide +kernel) rfl rfl ⟨Nat.le_of_ble_eq_true rfl, Nat.le_of_ble_eq_true rfl⟩) rfl hl.1 rfl (Nat.le_of_ble_eq_true rfl) ⟨Nat.zero_le _, Nat.zero_le _⟩ d_M_changed_JII_22 ?_
      refine lv_lload_n hx hb d_M_changed_JII_25 rfl (lv_at hl 0 rfl) ?_
      refine lv_iload_n hx hb d_M_changed_JII_26 rfl (lv_at hl 1 rfl) ?_
      refine pu_i (As := [.long x0, .int x2]) (rest := [.long (f_M_infinite_I x3)]) ⟨hx, hb, hml, hown, hts⟩ (c_M_minus_JI l _ x0 x2) pu_pre (gw_call (k := 2) hts tw_519 tw_520 tw_4 tw_521 (by decide +kernel) rfl rfl ⟨Nat.le_of_ble_eq_true rfl, Nat.le_of_ble_eq_true rfl⟩) rfl hl.1 rfl (Nat.le_of_ble_eq_true rfl) ⟨Nat.zero_le _, Nat.zero_le _⟩ d_M_changed_JII_27 ?_
      refine lv_iload_n hx hb d_M_changed_JII_30 rfl (lv_at hl 2 rfl) ?_
      refine pu_l (As := [.long (f_M_infinite_I x3), .int (f_M_minus_JI x0 x2), .int x3]) (rest := []) ⟨hx, hb, hml, hown, hts⟩ (c_M_signed_JZI l _ (f_M_infinite_I x3) (f_M_minus_JI x0 x2) x3) pu_pre (gw_call (k := 3) hts tw_522 tw_523 tw_4 tw_524 (by decide +kernel) rfl rfl ⟨Nat.le_of_ble_eq_true rfl, Nat.le_of_ble_eq_true rfl⟩) rfl hl.1 rfl (Nat.le_of_ble_eq_true rfl) ⟨Nat.zero_le _, Nat.zero_le _⟩ d_M_changed_JII_31 ?_
      exact pu_lret hx hb hr hlocks d_M_changed_JII_34 (by exact Eq.symm (Eq.trans (if_pos c1) (if_neg c2)))
  · refine lv_iload_n hx hb d_M_changed_JII_8 rfl (lv_at hl 2 rfl) ?_
    refine pu_l (As := [.int x3]) (rest := []) ⟨hx, hb, hml, hown, hts⟩ (c_M_none_I l _ x3) pu_pre (gw_call (k := 1) hts tw_511 tw_512 tw_4 tw_513 (by decide +kernel) rfl rfl ⟨Nat.le_of_ble_eq_true rfl, Nat.le_of_ble_eq_true rfl⟩) rfl hl.1 rfl (Nat.le_of_ble_eq_true rfl) ⟨Nat.zero_le _, Nat.zero_le _⟩ d_M_changed_JII_9 ?_
    exact pu_lret hx hb hr hlocks d_M_changed_JII_12 (by exact Eq.symm (if_neg c1))
-- ===== MotionLabModel.toFloat(J)J
abbrev y_M_toFloat_J : MethodName := ⟨"MotionLabModel", "toFloat", "(J)J"⟩
abbrev b_M_toFloat_J : ByteArray := prog_6_method_22_code
theorem d_M_toFloat_J_0 : decode b_M_toFloat_J 0 = .ok (.lload_n 0, 1) := by decide +kernel
theorem d_M_toFloat_J_1 : decode b_M_toFloat_J 1 = .ok (.iconst 0, 1) := by decide +kernel
theorem d_M_toFloat_J_2 : decode b_M_toFloat_J 2 = .ok (.iconst 1, 1) := by decide +kernel
theorem d_M_toFloat_J_3 : decode b_M_toFloat_J 3 = .ok (.invokestatic 99, 3) := by decide +kernel
theorem d_M_toFloat_J_6 : decode b_M_toFloat_J 6 = .ok (.lreturn, 1) := by decide +kernel
def f_M_toFloat_J (x0 : Int64) : Int64 :=
  f_M_changed_JII x0 (0 : Int32) (1 : Int32)
set_option maxHeartbeats 4000000 in
set_option maxRecDepth 100000 in
theorem c_M_toFloat_J (l : Launch) (h : Heap) (t0 t1 t2 : Nat) (x0 : Int64) : Met l y_M_toFloat_J (gw y_M_toFloat_J b_M_toFloat_J 2 (some .long)) { frames := 5, cells := 0, slots := 0, locals := 124 } (pr_Pc [.long x0] h t0 t1 t2) (pu_Ml (f_M_toFloat_J x0) h) 0 0 (fun _ => False) := by
  refine Met.ofW (cc := b_M_toFloat_J) (maxL := 2) (ret := (some .long)) (by decide) rfl ?_
  intro p e s m args below meth c s₁ B hml hv
  obtain ⟨rfl, hh, hRT⟩ := hv
  subst hh
  obtain ⟨hT0, hT1, hT2⟩ := id hRT
  have hx := B.exec
  have hb := B.bytes
  have hr := B.returns
  have hts := atoms_spec (ws := (gw y_M_toFloat_J b_M_toFloat_J 2 (some .long))) B.pre
  have hown : s.vm.findClass "MotionLabModel" = some m.cls := findClass_of_methodNamed B.named
  have hlocks := B.notSynchronized
  have C0 : pu_C p s m _ meth c b_M_toFloat_J 2 "MotionLabModel" (some .long) (gw y_M_toFloat_J b_M_toFloat_J 2 (some .long)) := ⟨hx, hb, hml, hown, hts, hr, hlocks⟩
  have hl := lv_entry ([.long x0]) (n := 2) (Nat.le_of_ble_eq_true rfl)
  rw [lg_entry_eq]
  generalize (lg_sl ([.long x0]) ++ List.replicate (2 - (lg_sl ([.long x0])).length) Slot.unset).toArray = ls at hl ⊢
  have hl : lv_has ls 2 [(0, .long x0)] := hl
  refine lv_lload_n hx hb d_M_toFloat_J_0 rfl (lv_at hl 0 rfl) ?_
  refine lv_iconst (v := 0) hx hb d_M_toFloat_J_1 (by decide) ?_
  refine lv_iconst (v := 1) hx hb d_M_toFloat_J_2 (by decide) ?_
  refine pu_l (As := [.long x0, .int (0 : Int32), .int (1 : Int32)]) (rest := []) ⟨hx, hb, hml, hown, hts⟩ (c_M_changed_JII l _ t0 t1 t2 x0 (0 : Int32) (1 : Int32) (in_of (by decide) (by decide)) (in_of (by decide) (by decide))) (pr_pre hRT) (gw_call (k := 3) hts tw_495 tw_496 tw_4 tw_497 (by decide +kernel) rfl rfl ⟨Nat.le_of_ble_eq_true rfl, Nat.le_of_ble_eq_true rfl⟩) rfl hl.1 rfl (Nat.le_of_ble_eq_true rfl) ⟨Nat.zero_le _, Nat.zero_le _⟩ d_M_toFloat_J_3 ?_
  exact pu_lret hx hb hr hlocks d_M_toFloat_J_6 (by exact Eq.symm rfl)
-- ===== MotionLabModel.floatOf(I)J
abbrev y_M_floatOf_I : MethodName := ⟨"MotionLabModel", "floatOf", "(I)J"⟩
abbrev b_M_floatOf_I : ByteArray := prog_6_method_35_code
theorem d_M_floatOf_I_0 : decode b_M_floatOf_I 0 = .ok (.iload_n 0, 1) := by decide +kernel
theorem d_M_floatOf_I_1 : decode b_M_floatOf_I 1 = .ok (.i2l, 1) := by decide +kernel
theorem d_M_floatOf_I_2 : decode b_M_floatOf_I 2 = .ok (.ldc2_w 207, 3) := by decide +kernel
theorem d_M_floatOf_I_5 : decode b_M_floatOf_I 5 = .ok (.land, 1) := by decide +kernel
theorem d_M_floatOf_I_6 : decode b_M_floatOf_I 6 = .ok (.lreturn, 1) := by decide +kernel
def f_M_floatOf_I (x0 : Int32) : Int64 :=
  (x0.toInt64) &&& (4294967295 : Int64)
set_option maxHeartbeats 4000000 in
set_option maxRecDepth 100000 in
theorem c_M_floatOf_I (l : Launch) (h : Heap) (x0 : Int32) : Met l y_M_floatOf_I (gw y_M_floatOf_I b_M_floatOf_I 1 (some .long)) { frames := 0, cells := 0, slots := 0, locals := 0 } (pu_Pc [.int x0] h) (pu_Ml (f_M_floatOf_I x0) h) 0 0 (fun _ => False) := by
  refine Met.ofW (cc := b_M_floatOf_I) (maxL := 1) (ret := (some .long)) (by decide) rfl ?_
  intro p e s m args below meth c s₁ B hml hv
  obtain ⟨rfl, hh⟩ := hv
  subst hh
  have hx := B.exec
  have hb := B.bytes
  have hr := B.returns
  have hts := atoms_spec (ws := (gw y_M_floatOf_I b_M_floatOf_I 1 (some .long))) B.pre
  have hown : s.vm.findClass "MotionLabModel" = some m.cls := findClass_of_methodNamed B.named
  have hlocks := B.notSynchronized
  have C0 : pu_C p s m _ meth c b_M_floatOf_I 1 "MotionLabModel" (some .long) (gw y_M_floatOf_I b_M_floatOf_I 1 (some .long)) := ⟨hx, hb, hml, hown, hts, hr, hlocks⟩
  have hl := lv_entry ([.int x0]) (n := 1) (Nat.le_of_ble_eq_true rfl)
  rw [lg_entry_eq]
  generalize (lg_sl ([.int x0]) ++ List.replicate (1 - (lg_sl ([.int x0])).length) Slot.unset).toArray = ls at hl ⊢
  have hl : lv_has ls 1 [(0, .int x0)] := hl
  refine lv_iload_n hx hb d_M_floatOf_I_0 rfl (lv_at hl 0 rfl) ?_
  refine lv_i2l hx hb d_M_floatOf_I_1 rfl ?_
  refine lv_ldc2 (v := (4294967295 : Int64)) hx hb hown (hts _ (gm tw_557)) d_M_floatOf_I_2 ?_
  refine lv_land hx hb d_M_floatOf_I_5 ?_
  exact pu_lret hx hb hr hlocks d_M_floatOf_I_6 (by exact Eq.symm rfl)
