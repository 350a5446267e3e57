-- ===== MotionLab.result(IJJ)J
abbrev y_L_result_IJJ : MethodName := ⟨"MotionLab", "result", "(IJJ)J"⟩
abbrev b_L_result_IJJ : ByteArray := prog_1_method_20_code
theorem d_L_result_IJJ_0 : decode b_L_result_IJJ 0 = .ok (.iload_n 0, 1) := by decide +kernel
theorem d_L_result_IJJ_1 : decode b_L_result_IJJ 1 = .ok (.tableswitch 132 0 14 #[75, 81, 87, 93, 99, 105, 110, 115, 132, 132, 132, 132, 132, 120, 126], 75) := by decide +kernel
theorem d_L_result_IJJ_76 : decode b_L_result_IJJ 76 = .ok (.lload_n 1, 1) := by decide +kernel
theorem d_L_result_IJJ_77 : decode b_L_result_IJJ 77 = .ok (.lload_n 3, 1) := by decide +kernel
theorem d_L_result_IJJ_78 : decode b_L_result_IJJ 78 = .ok (.invokestatic 122, 3) := by decide +kernel
theorem d_L_result_IJJ_81 : decode b_L_result_IJJ 81 = .ok (.lreturn, 1) := by decide +kernel
theorem d_L_result_IJJ_82 : decode b_L_result_IJJ 82 = .ok (.lload_n 1, 1) := by decide +kernel
theorem d_L_result_IJJ_83 : decode b_L_result_IJJ 83 = .ok (.lload_n 3, 1) := by decide +kernel
theorem d_L_result_IJJ_84 : decode b_L_result_IJJ 84 = .ok (.invokestatic 131, 3) := by decide +kernel
theorem d_L_result_IJJ_87 : decode b_L_result_IJJ 87 = .ok (.lreturn, 1) := by decide +kernel
theorem d_L_result_IJJ_88 : decode b_L_result_IJJ 88 = .ok (.lload_n 1, 1) := by decide +kernel
theorem d_L_result_IJJ_89 : decode b_L_result_IJJ 89 = .ok (.lload_n 3, 1) := by decide +kernel
theorem d_L_result_IJJ_90 : decode b_L_result_IJJ 90 = .ok (.invokestatic 118, 3) := by decide +kernel
theorem d_L_result_IJJ_93 : decode b_L_result_IJJ 93 = .ok (.lreturn, 1) := by decide +kernel
theorem d_L_result_IJJ_94 : decode b_L_result_IJJ 94 = .ok (.lload_n 1, 1) := by decide +kernel
theorem d_L_result_IJJ_95 : decode b_L_result_IJJ 95 = .ok (.lload_n 3, 1) := by decide +kernel
theorem d_L_result_IJJ_96 : decode b_L_result_IJJ 96 = .ok (.invokestatic 134, 3) := by decide +kernel
theorem d_L_result_IJJ_99 : decode b_L_result_IJJ 99 = .ok (.lreturn, 1) := by decide +kernel
theorem d_L_result_IJJ_100 : decode b_L_result_IJJ 100 = .ok (.lload_n 1, 1) := by decide +kernel
theorem d_L_result_IJJ_101 : decode b_L_result_IJJ 101 = .ok (.lload_n 3, 1) := by decide +kernel
theorem d_L_result_IJJ_102 : decode b_L_result_IJJ 102 = .ok (.invokestatic 137, 3) := by decide +kernel
theorem d_L_result_IJJ_105 : decode b_L_result_IJJ 105 = .ok (.lreturn, 1) := by decide +kernel
theorem d_L_result_IJJ_106 : decode b_L_result_IJJ 106 = .ok (.lload_n 1, 1) := by decide +kernel
theorem d_L_result_IJJ_107 : decode b_L_result_IJJ 107 = .ok (.invokestatic 140, 3) := by decide +kernel
theorem d_L_result_IJJ_110 : decode b_L_result_IJJ 110 = .ok (.lreturn, 1) := by decide +kernel
theorem d_L_result_IJJ_111 : decode b_L_result_IJJ 111 = .ok (.lload_n 1, 1) := by decide +kernel
theorem d_L_result_IJJ_112 : decode b_L_result_IJJ 112 = .ok (.invokestatic 143, 3) := by decide +kernel
theorem d_L_result_IJJ_115 : decode b_L_result_IJJ 115 = .ok (.lreturn, 1) := by decide +kernel
theorem d_L_result_IJJ_116 : decode b_L_result_IJJ 116 = .ok (.lload_n 1, 1) := by decide +kernel
theorem d_L_result_IJJ_117 : decode b_L_result_IJJ 117 = .ok (.invokestatic 125, 3) := by decide +kernel
theorem d_L_result_IJJ_120 : decode b_L_result_IJJ 120 = .ok (.lreturn, 1) := by decide +kernel
theorem d_L_result_IJJ_121 : decode b_L_result_IJJ 121 = .ok (.lload_n 1, 1) := by decide +kernel
theorem d_L_result_IJJ_122 : decode b_L_result_IJJ 122 = .ok (.lload_n 3, 1) := by decide +kernel
theorem d_L_result_IJJ_123 : decode b_L_result_IJJ 123 = .ok (.invokestatic 146, 3) := by decide +kernel
theorem d_L_result_IJJ_126 : decode b_L_result_IJJ 126 = .ok (.lreturn, 1) := by decide +kernel
theorem d_L_result_IJJ_127 : decode b_L_result_IJJ 127 = .ok (.lload_n 1, 1) := by decide +kernel
theorem d_L_result_IJJ_128 : decode b_L_result_IJJ 128 = .ok (.lload_n 3, 1) := by decide +kernel
theorem d_L_result_IJJ_129 : decode b_L_result_IJJ 129 = .ok (.invokestatic 149, 3) := by decide +kernel
theorem d_L_result_IJJ_132 : decode b_L_result_IJJ 132 = .ok (.lreturn, 1) := by decide +kernel
theorem d_L_result_IJJ_133 : decode b_L_result_IJJ 133 = .ok (.iload_n 0, 1) := by decide +kernel
theorem d_L_result_IJJ_134 : decode b_L_result_IJJ 134 = .ok (.lload_n 1, 1) := by decide +kernel
theorem d_L_result_IJJ_135 : decode b_L_result_IJJ 135 = .ok (.invokestatic 125, 3) := by decide +kernel
theorem d_L_result_IJJ_138 : decode b_L_result_IJJ 138 = .ok (.lload_n 3, 1) := by decide +kernel
theorem d_L_result_IJJ_139 : decode b_L_result_IJJ 139 = .ok (.invokestatic 125, 3) := by decide +kernel
theorem d_L_result_IJJ_142 : decode b_L_result_IJJ 142 = .ok (.invokestatic 152, 3) := by decide +kernel
theorem d_L_result_IJJ_145 : decode b_L_result_IJJ 145 = .ok (.lreturn, 1) := by decide +kernel
def f_L_result_IJJ (x0 : Int32) (x1 : Int64) (x3 : Int64) : Int64 :=
  if x0 = 0 then
    f_I_sum_JJ x1 x3
  else
    if x0 = 1 then
      f_I_difference_JJ x1 x3
    else
      if x0 = 2 then
        f_I_product_JJ x1 x3
      else
        if x0 = 3 then
          f_I_quotient_JJ x1 x3
        else
          if x0 = 4 then
            f_I_remainder_JJ x1 x3
          else
            if x0 = 5 then
              f_I_root_J x1
            else
              if x0 = 6 then
                f_I_negated_J x1
              else
                if x0 = 7 then
                  f_I_toFloat_J x1
                else
                  if x0 = 8 then
                    f_L_floatResult_IJJ x0 (f_I_toFloat_J x1) (f_I_toFloat_J x3)
                  else
                    if x0 = 9 then
                      f_L_floatResult_IJJ x0 (f_I_toFloat_J x1) (f_I_toFloat_J x3)
                    else
                      if x0 = 10 then
                        f_L_floatResult_IJJ x0 (f_I_toFloat_J x1) (f_I_toFloat_J x3)
                      else
                        if x0 = 11 then
                          f_L_floatResult_IJJ x0 (f_I_toFloat_J x1) (f_I_toFloat_J x3)
                        else
                          if x0 = 12 then
                            f_L_floatResult_IJJ x0 (f_I_toFloat_J x1) (f_I_toFloat_J x3)
                          else
                            if x0 = 13 then
                              f_I_lesser_JJ x1 x3
                            else
                              if x0 = 14 then
                                f_I_greater_JJ x1 x3
                              else
                                f_L_floatResult_IJJ x0 (f_I_toFloat_J x1) (f_I_toFloat_J x3)
set_option maxHeartbeats 4000000 in
set_option maxRecDepth 100000 in
theorem c_L_result_IJJ (l : Launch) (h : Heap) (x0 : Int32) (x1 : Int64) (x3 : Int64) : Met l y_L_result_IJJ (gw y_L_result_IJJ b_L_result_IJJ 5 (some .long)) { frames := 6, cells := 0, slots := 0, locals := 151 } (pu_Pc [.int x0, .long x1, .long x3] h) (pu_Ml (f_L_result_IJJ x0 x1 x3) h) 0 0 (fun _ => False) := by
  refine Met.ofW (cc := b_L_result_IJJ) (maxL := 5) (ret := (some .long)) (by decide) rfl ?_
  intro p e s m args below meth c s₁ B hml hv
  obtain ⟨rfl, hh⟩ := hv
  subst hh
  have hx := B.exec
  have hb := B.bytes
  have hr := B.returns
  have hts := atoms_spec (ws := (gw y_L_result_IJJ b_L_result_IJJ 5 (some .long))) B.pre
  have hown : s.vm.findClass "MotionLab" = some m.cls := findClass_of_methodNamed B.named
  have hlocks := B.notSynchronized
  have C0 : pu_C p s m _ meth c b_L_result_IJJ 5 "MotionLab" (some .long) (gw y_L_result_IJJ b_L_result_IJJ 5 (some .long)) := ⟨hx, hb, hml, hown, hts, hr, hlocks⟩
  have hl := lv_entry ([.int x0, .long x1, .long x3]) (n := 5) (Nat.le_of_ble_eq_true rfl)
  rw [lg_entry_eq]
  generalize (lg_sl ([.int x0, .long x1, .long x3]) ++ List.replicate (5 - (lg_sl ([.int x0, .long x1, .long x3])).length) Slot.unset).toArray = ls at hl ⊢
  have hl : lv_has ls 5 [(0, .int x0), (1, .long x1), (3, .long x3)] := hl
  refine lv_iload_n hx hb d_L_result_IJJ_0 rfl (lv_at hl 0 rfl) ?_
  by_cases c1 : x0 = 0
  · refine lv_tableIn (off := 75) (tgt := 76) hx hb d_L_result_IJJ_1 (by rw [c1]; decide) (by rw [c1]; decide) (by rw [c1]; rfl) (by decide) ?_
    refine lv_lload_n hx hb d_L_result_IJJ_76 rfl (lv_at hl 1 rfl) ?_
    refine lv_lload_n hx hb d_L_result_IJJ_77 rfl (lv_at hl 2 rfl) ?_
    refine pu_l (As := [.long x1, .long x3]) (rest := []) ⟨hx, hb, hml, hown, hts⟩ (c_I_sum_JJ l _ x1 x3) pu_pre (gw_call (k := 2) hts tw_301 tw_192 tw_5 tw_193 (by decide +kernel) rfl rfl ⟨Nat.le_of_ble_eq_true rfl, Nat.le_of_ble_eq_true rfl⟩) rfl hl.1 rfl (Nat.le_of_ble_eq_true rfl) ⟨Nat.zero_le _, Nat.zero_le _⟩ d_L_result_IJJ_78 ?_
    exact pu_lret hx hb hr hlocks d_L_result_IJJ_81 (by exact Eq.symm (if_pos c1))
  · skip
    by_cases c2 : x0 = 1
    · refine lv_tableIn (off := 81) (tgt := 82) hx hb d_L_result_IJJ_1 (by rw [c2]; decide) (by rw [c2]; decide) (by rw [c2]; rfl) (by decide) ?_
      refine lv_lload_n hx hb d_L_result_IJJ_82 rfl (lv_at hl 1 rfl) ?_
      refine lv_lload_n hx hb d_L_result_IJJ_83 rfl (lv_at hl 2 rfl) ?_
      refine pu_l (As := [.long x1, .long x3]) (rest := []) ⟨hx, hb, hml, hown, hts⟩ (c_I_difference_JJ l _ x1 x3) pu_pre (gw_call (k := 2) hts tw_302 tw_189 tw_5 tw_190 (by decide +kernel) rfl rfl ⟨Nat.le_of_ble_eq_true rfl, Nat.le_of_ble_eq_true rfl⟩) rfl hl.1 rfl (Nat.le_of_ble_eq_true rfl) ⟨Nat.zero_le _, Nat.zero_le _⟩ d_L_result_IJJ_84 ?_
      exact pu_lret hx hb hr hlocks d_L_result_IJJ_87 (by exact Eq.symm (Eq.trans (if_neg c1) (if_pos c2)))
    · skip
      by_cases c3 : x0 = 2
      · refine lv_tableIn (off := 87) (tgt := 88) hx hb d_L_result_IJJ_1 (by rw [c3]; decide) (by rw [c3]; decide) (by rw [c3]; rfl) (by decide) ?_
        refine lv_lload_n hx hb d_L_result_IJJ_88 rfl (lv_at hl 1 rfl) ?_
        refine lv_lload_n hx hb d_L_result_IJJ_89 rfl (lv_at hl 2 rfl) ?_
        refine pu_l (As := [.long x1, .long x3]) (rest := []) ⟨hx, hb, hml, hown, hts⟩ (c_I_product_JJ l _ x1 x3) pu_pre (gw_call (k := 2) hts tw_303 tw_175 tw_5 tw_176 (by decide +kernel) rfl rfl ⟨Nat.le_of_ble_eq_true rfl, Nat.le_of_ble_eq_true rfl⟩) rfl hl.1 rfl (Nat.le_of_ble_eq_true rfl) ⟨Nat.zero_le _, Nat.zero_le _⟩ d_L_result_IJJ_90 ?_
        exact pu_lret hx hb hr hlocks d_L_result_IJJ_93 (by exact Eq.symm (Eq.trans (if_neg c1) (Eq.trans (if_neg c2) (if_pos c3))))
      · skip
        by_cases c4 : x0 = 3
        · refine lv_tableIn (off := 93) (tgt := 94) hx hb d_L_result_IJJ_1 (by rw [c4]; decide) (by rw [c4]; decide) (by rw [c4]; rfl) (by decide) ?_
          refine lv_lload_n hx hb d_L_result_IJJ_94 rfl (lv_at hl 1 rfl) ?_
          refine lv_lload_n hx hb d_L_result_IJJ_95 rfl (lv_at hl 2 rfl) ?_
          refine pu_l (As := [.long x1, .long x3]) (rest := []) ⟨hx, hb, hml, hown, hts⟩ (c_I_quotient_JJ l _ x1 x3) pu_pre (gw_call (k := 2) hts tw_304 tw_224 tw_5 tw_225 (by decide +kernel) rfl rfl ⟨Nat.le_of_ble_eq_true rfl, Nat.le_of_ble_eq_true rfl⟩) rfl hl.1 rfl (Nat.le_of_ble_eq_true rfl) ⟨Nat.zero_le _, Nat.zero_le _⟩ d_L_result_IJJ_96 ?_
          exact pu_lret hx hb hr hlocks d_L_result_IJJ_99 (by exact Eq.symm (Eq.trans (if_neg c1) (Eq.trans (if_neg c2) (Eq.trans (if_neg c3) (if_pos c4)))))
        · skip
          by_cases c5 : x0 = 4
          · refine lv_tableIn (off := 99) (tgt := 100) hx hb d_L_result_IJJ_1 (by rw [c5]; decide) (by rw [c5]; decide) (by rw [c5]; rfl) (by decide) ?_
            refine lv_lload_n hx hb d_L_result_IJJ_100 rfl (lv_at hl 1 rfl) ?_
            refine lv_lload_n hx hb d_L_result_IJJ_101 rfl (lv_at hl 2 rfl) ?_
            refine pu_l (As := [.long x1, .long x3]) (rest := []) ⟨hx, hb, hml, hown, hts⟩ (c_I_remainder_JJ l _ x1 x3) pu_pre (gw_call (k := 2) hts tw_305 tw_306 tw_5 tw_307 (by decide +kernel) rfl rfl ⟨Nat.le_of_ble_eq_true rfl, Nat.le_of_ble_eq_true rfl⟩) rfl hl.1 rfl (Nat.le_of_ble_eq_true rfl) ⟨Nat.zero_le _, Nat.zero_le _⟩ d_L_result_IJJ_102 ?_
            exact pu_lret hx hb hr hlocks d_L_result_IJJ_105 (by exact Eq.symm (Eq.trans (if_neg c1) (Eq.trans (if_neg c2) (Eq.trans (if_neg c3) (Eq.trans (if_neg c4) (if_pos c5))))))
          · skip
            by_cases c6 : x0 = 5
            · refine lv_tableIn (off := 105) (tgt := 106) hx hb d_L_result_IJJ_1 (by rw [c6]; decide) (by rw [c6]; decide) (by rw [c6]; rfl) (by decide) ?_
              refine lv_lload_n hx hb d_L_result_IJJ_106 rfl (lv_at hl 1 rfl) ?_
              refine pu_l (As := [.long x1]) (rest := []) ⟨hx, hb, hml, hown, hts⟩ (c_I_root_J l _ x1) pu_pre (gw_call (k := 1) hts tw_311 tw_220 tw_5 tw_221 (by decide +kernel) rfl rfl ⟨Nat.le_of_ble_eq_true rfl, Nat.le_of_ble_eq_true rfl⟩) rfl hl.1 rfl (Nat.le_of_ble_eq_true rfl) ⟨Nat.zero_le _, Nat.zero_le _⟩ d_L_result_IJJ_107 ?_
              exact pu_lret hx hb hr hlocks d_L_result_IJJ_110 (by exact Eq.symm (Eq.trans (if_neg c1) (Eq.trans (if_neg c2) (Eq.trans (if_neg c3) (Eq.trans (if_neg c4) (Eq.trans (if_neg c5) (if_pos c6)))))))
            · skip
              by_cases c7 : x0 = 6
              · refine lv_tableIn (off := 110) (tgt := 111) hx hb d_L_result_IJJ_1 (by rw [c7]; decide) (by rw [c7]; decide) (by rw [c7]; rfl) (by decide) ?_
                refine lv_lload_n hx hb d_L_result_IJJ_111 rfl (lv_at hl 1 rfl) ?_
                refine pu_l (As := [.long x1]) (rest := []) ⟨hx, hb, hml, hown, hts⟩ (c_I_negated_J l _ x1) pu_pre (gw_call (k := 1) hts tw_312 tw_263 tw_5 tw_264 (by decide +kernel) rfl rfl ⟨Nat.le_of_ble_eq_true rfl, Nat.le_of_ble_eq_true rfl⟩) rfl hl.1 rfl (Nat.le_of_ble_eq_true rfl) ⟨Nat.zero_le _, Nat.zero_le _⟩ d_L_result_IJJ_112 ?_
                exact pu_lret hx hb hr hlocks d_L_result_IJJ_115 (by exact Eq.symm (Eq.trans (if_neg c1) (Eq.trans (if_neg c2) (Eq.trans (if_neg c3) (Eq.trans (if_neg c4) (Eq.trans (if_neg c5) (Eq.trans (if_neg c6) (if_pos c7))))))))
              · skip
                by_cases c8 : x0 = 7
                · refine lv_tableIn (off := 115) (tgt := 116) hx hb d_L_result_IJJ_1 (by rw [c8]; decide) (by rw [c8]; decide) (by rw [c8]; rfl) (by decide) ?_
                  refine lv_lload_n hx hb d_L_result_IJJ_116 rfl (lv_at hl 1 rfl) ?_
                  refine pu_l (As := [.long x1]) (rest := []) ⟨hx, hb, hml, hown, hts⟩ (c_I_toFloat_J l _ x1) pu_pre (gw_call (k := 1) hts tw_313 tw_79 tw_5 tw_80 (by decide +kernel) rfl rfl ⟨Nat.le_of_ble_eq_true rfl, Nat.le_of_ble_eq_true rfl⟩) rfl hl.1 rfl (Nat.le_of_ble_eq_true rfl) ⟨Nat.zero_le _, Nat.zero_le _⟩ d_L_result_IJJ_117 ?_
                  exact pu_lret hx hb hr hlocks d_L_result_IJJ_120 (by exact Eq.symm (Eq.trans (if_neg c1) (Eq.trans (if_neg c2) (Eq.trans (if_neg c3) (Eq.trans (if_neg c4) (Eq.trans (if_neg c5) (Eq.trans (if_neg c6) (Eq.trans (if_neg c7) (if_pos c8)))))))))
                · skip
                  by_cases c9 : x0 = 8
                  · refine lv_tableIn (off := 132) (tgt := 133) hx hb d_L_result_IJJ_1 (by rw [c9]; decide) (by rw [c9]; decide) (by rw [c9]; rfl) (by decide) ?_
                    refine lv_iload_n hx hb d_L_result_IJJ_133 rfl (lv_at hl 0 rfl) ?_
                    refine lv_lload_n hx hb d_L_result_IJJ_134 rfl (lv_at hl 1 rfl) ?_
                    refine pu_l (As := [.long x1]) (rest := [.int x0]) ⟨hx, hb, hml, hown, hts⟩ (c_I_toFloat_J l _ x1) pu_pre (gw_call (k := 1) hts tw_313 tw_79 tw_5 tw_80 (by decide +kernel) rfl rfl ⟨Nat.le_of_ble_eq_true rfl, Nat.le_of_ble_eq_true rfl⟩) rfl hl.1 rfl (Nat.le_of_ble_eq_true rfl) ⟨Nat.zero_le _, Nat.zero_le _⟩ d_L_result_IJJ_135 ?_
                    refine lv_lload_n hx hb d_L_result_IJJ_138 rfl (lv_at hl 2 rfl) ?_
                    refine pu_l (As := [.long x3]) (rest := [.long (f_I_toFloat_J x1), .int x0]) ⟨hx, hb, hml, hown, hts⟩ (c_I_toFloat_J l _ x3) pu_pre (gw_call (k := 1) hts tw_313 tw_79 tw_5 tw_80 (by decide +kernel) rfl rfl ⟨Nat.le_of_ble_eq_true rfl, Nat.le_of_ble_eq_true rfl⟩) rfl hl.1 rfl (Nat.le_of_ble_eq_true rfl) ⟨Nat.zero_le _, Nat.zero_le _⟩ d_L_result_IJJ_139 ?_
                    refine pu_l (As := [.int x0, .long (f_I_toFloat_J x1), .long (f_I_toFloat_J x3)]) (rest := []) ⟨hx, hb, hml, hown, hts⟩ (c_L_floatResult_IJJ l _ x0 (f_I_toFloat_J x1) (f_I_toFloat_J x3)) pu_pre (gw_call (k := 3) hts tw_322 tw_323 tw_1 tw_324 (by decide +kernel) rfl rfl ⟨Nat.le_of_ble_eq_true rfl, Nat.le_of_ble_eq_true rfl⟩) rfl hl.1 rfl (Nat.le_of_ble_eq_true rfl) ⟨Nat.zero_le _, Nat.zero_le _⟩ d_L_result_IJJ_142 ?_
                    exact pu_lret hx hb hr hlocks d_L_result_IJJ_145 (by exact Eq.symm (Eq.trans (if_neg c1) (Eq.trans (if_neg c2) (Eq.trans (if_neg c3) (Eq.trans (if_neg c4) (Eq.trans (if_neg c5) (Eq.trans (if_neg c6) (Eq.trans (if_neg c7) (Eq.trans (if_neg c8) (if_pos c9))))))))))
                  · skip
                    by_cases c10 : x0 = 9
                    · refine lv_tableIn (off := 132) (tgt := 133) hx hb d_L_result_IJJ_1 (by rw [c10]; decide) (by rw [c10]; decide) (by rw [c10]; rfl) (by decide) ?_
                      refine lv_iload_n hx hb d_L_result_IJJ_133 rfl (lv_at hl 0 rfl) ?_
                      refine lv_lload_n hx hb d_L_result_IJJ_134 rfl (lv_at hl 1 rfl) ?_
                      refine pu_l (As := [.long x1]) (rest := [.int x0]) ⟨hx, hb, hml, hown, hts⟩ (c_I_toFloat_J l _ x1) pu_pre (gw_call (k := 1) hts tw_313 tw_79 tw_5 tw_80 (by decide +kernel) rfl rfl ⟨Nat.le_of_ble_eq_true rfl, Nat.le_of_ble_eq_true rfl⟩) rfl hl.1 rfl (Nat.le_of_ble_eq_true rfl) ⟨Nat.zero_le _, Nat.zero_le _⟩ d_L_result_IJJ_135 ?_
                      refine lv_lload_n hx hb d_L_result_IJJ_138 rfl (lv_at hl 2 rfl) ?_
                      refine pu_l (As := [.long x3]) (rest := [.long (f_I_toFloat_J x1), .int x0]) ⟨hx, hb, hml, hown, hts⟩ (c_I_toFloat_J l _ x3) pu_pre (gw_call (k := 1) hts tw_313 tw_79 tw_5 tw_80 (by decide +kernel) rfl rfl ⟨Nat.le_of_ble_eq_true rfl, Nat.le_of_ble_eq_true rfl⟩) rfl hl.1 rfl (Nat.le_of_ble_eq_true rfl) ⟨Nat.zero_le _, Nat.zero_le _⟩ d_L_result_IJJ_139 ?_
                      refine pu_l (As := [.int x0, .long (f_I_toFloat_J x1), .long (f_I_toFloat_J x3)]) (rest := []) ⟨hx, hb, hml, hown, hts⟩ (c_L_floatResult_IJJ l _ x0 (f_I_toFloat_J x1) (f_I_toFloat_J x3)) pu_pre (gw_call (k := 3) hts tw_322 tw_323 tw_1 tw_324 (by decide +kernel) rfl rfl ⟨Nat.le_of_ble_eq_true rfl, Nat.le_of_ble_eq_true rfl⟩) rfl hl.1 rfl (Nat.le_of_ble_eq_true rfl) ⟨Nat.zero_le _, Nat.zero_le _⟩ d_L_result_IJJ_142 ?_
                      exact pu_lret hx hb hr hlocks d_L_result_IJJ_145 (by exact Eq.symm (Eq.trans (if_neg c1) (Eq.trans (if_neg c2) (Eq.trans (if_neg c3) (Eq.trans (if_neg c4) (Eq.trans (if_neg c5) (Eq.trans (if_neg c6) (Eq.trans (if_neg c7) (Eq.trans (if_neg c8) (Eq.trans (if_neg c9) (if_pos c10)))))))))))
                    · skip
                      by_cases c11 : x0 = 10
                      · refine lv_tableIn (off := 132) (tgt := 133) hx hb d_L_result_IJJ_1 (by rw [c11]; decide) (by rw [c11]; decide) (by rw [c11]; rfl) (by decide) ?_
                        refine lv_iload_n hx hb d_L_result_IJJ_133 rfl (lv_at hl 0 rfl) ?_
                        refine lv_lload_n hx hb d_L_result_IJJ_134 rfl (lv_at hl 1 rfl) ?_
                        refine pu_l (As := [.long x1]) (rest := [.int x0]) ⟨hx, hb, hml, hown, hts⟩ (c_I_toFloat_J l _ x1) pu_pre (gw_call (k := 1) hts tw_313 tw_79 tw_5 tw_80 (by decide +kernel) rfl rfl ⟨Nat.le_of_ble_eq_true rfl, Nat.le_of_ble_eq_true rfl⟩) rfl hl.1 rfl (Nat.le_of_ble_eq_true rfl) ⟨Nat.zero_le _, Nat.zero_le _⟩ d_L_result_IJJ_135 ?_
                        refine lv_lload_n hx hb d_L_result_IJJ_138 rfl (lv_at hl 2 rfl) ?_
                        refine pu_l (As := [.long x3]) (rest := [.long (f_I_toFloat_J x1), .int x0]) ⟨hx, hb, hml, hown, hts⟩ (c_I_toFloat_J l _ x3) pu_pre (gw_call (k := 1) hts tw_313 tw_79 tw_5 tw_80 (by decide +kernel) rfl rfl ⟨Nat.le_of_ble_eq_true rfl, Nat.le_of_ble_eq_true rfl⟩) rfl hl.1 rfl (Nat.le_of_ble_eq_true rfl) ⟨Nat.zero_le _, Nat.zero_le _⟩ d_L_result_IJJ_139 ?_
                        refine pu_l (As := [.int x0, .long (f_I_toFloat_J x1), .long (f_I_toFloat_J x3)]) (rest := []) ⟨hx, hb, hml, hown, hts⟩ (c_L_floatResult_IJJ l _ x0 (f_I_toFloat_J x1) (f_I_toFloat_J x3)) pu_pre (gw_call (k := 3) hts tw_322 tw_323 tw_1 tw_324 (by decide +kernel) rfl rfl ⟨Nat.le_of_ble_eq_true rfl, Nat.le_of_ble_eq_true rfl⟩) rfl hl.1 rfl (Nat.le_of_ble_eq_true rfl) ⟨Nat.zero_le _, Nat.zero_le _⟩ d_L_result_IJJ_142 ?_
                        exact pu_lret hx hb hr hlocks d_L_result_IJJ_145 (by exact Eq.symm (Eq.trans (if_neg c1) (Eq.trans (if_neg c2) (Eq.trans (if_neg c3) (Eq.trans (if_neg c4) (Eq.trans (if_neg c5) (Eq.trans (if_neg c6) (Eq.trans (if_neg c7) (Eq.trans (if_neg c8) (Eq.trans (if_neg c9) (Eq.trans (if_neg c10) (if_pos c11))))))))))))
                      · skip
                        by_cases c12 : x0 = 11
                        · refine lv_tableIn (off := 132) (tgt := 133) hx hb d_L_result_IJJ_1 (by rw [c12]; decide) (by rw [c12]; decide) (by rw [c12]; rfl) (by decide) ?_
                          refine lv_iload_n hx hb d_L_result_IJJ_133 rfl (lv_at hl 0 rfl) ?_
                          refine lv_lload_n hx hb d_L_result_IJJ_134 rfl (lv_at hl 1 rfl) ?_
                          refine pu_l (As := [.long x1]) (rest := [.int x0]) ⟨hx, hb, hml, hown, hts⟩ (c_I_toFloat_J l _ x1) pu_pre (gw_call (k := 1) hts tw_313 tw_79 tw_5 tw_80 (by decide +kernel) rfl rfl ⟨Nat.le_of_ble_eq_true rfl, Nat.le_of_ble_eq_true rfl⟩) rfl hl.1 rfl (Nat.le_of_ble_eq_true rfl) ⟨Nat.zero_le _, Nat.zero_le _⟩ d_L_result_IJJ_135 ?_
                          refine lv_lload_n hx hb d_L_result_IJJ_138 rfl (lv_at hl 2 rfl) ?_
                          refine pu_l (As := [.long x3]) (rest := [.long (f_I_toFloat_J x1), .int x0]) ⟨hx, hb, hml, hown, hts⟩ (c_I_toFloat_J l _ x3) pu_pre (gw_call (k := 1) hts tw_313 tw_79 tw_5 tw_80 (by decide +kernel) rfl rfl ⟨Nat.le_of_ble_eq_true rfl, Nat.le_of_ble_eq_true rfl⟩) rfl hl.1 rfl (Nat.le_of_ble_eq_true rfl) ⟨Nat.zero_le _, Nat.zero_le _⟩ d_L_result_IJJ_139 ?_
                          refine pu_l (As := [.int x0, .long (f_I_toFloat_J x1), .long (f_I_toFloat_J x3)]) (rest := []) ⟨hx, hb, hml, hown, hts⟩ (c_L_floatResult_IJJ l _ x0 (f_I_toFloat_J x1) (f_I_toFloat_J x3)) pu_pre (gw_call (k := 3) hts tw_322 tw_323 tw_1 tw_324 (by decide +kernel) rfl rfl ⟨Nat.le_of_ble_eq_true rfl, Nat.le_of_ble_eq_true rfl⟩) rfl hl.1 rfl (Nat.le_of_ble_eq_true rfl) ⟨Nat.zero_le _, Nat.zero_le _⟩ d_L_result_IJJ_142 ?_
                          exact pu_lret hx hb hr hlocks d_L_result_IJJ_145 (by exact Eq.symm (Eq.trans (if_neg c1) (Eq.trans (if_neg c2) (Eq.trans (if_neg c3) (Eq.trans (if_neg c4) (Eq.trans (if_neg c5) (Eq.trans (if_neg c6) (Eq.trans (if_neg c7) (Eq.trans (if_neg c8) (Eq.trans (if_neg c9) (Eq.trans (if_neg c10) (Eq.trans (if_neg c11) (if_pos c12)))))))))))))
                        · skip
                          by_cases c13 : x0 = 12
                          · refine lv_tableIn (off := 132) (tgt := 133) hx hb d_L_result_IJJ_1 (by rw [c13]; decide) (by rw [c13]; decide) (by rw [c13]; rfl) (by decide) ?_
                            refine lv_iload_n hx hb d_L_result_IJJ_133 rfl (lv_at hl 0 rfl) ?_
                            refine lv_lload_n hx hb d_L_result_IJJ_134 rfl (lv_at hl 1 rfl) ?_
                            refine pu_l (As := [.long x1]) (rest := [.int x0]) ⟨hx, hb, hml, hown, hts⟩ (c_I_toFloat_J l _ x1) pu_pre (gw_call (k := 1) hts tw_313 tw_79 tw_5 tw_80 (by decide +kernel) rfl rfl ⟨Nat.le_of_ble_eq_true rfl, Nat.le_of_ble_eq_true rfl⟩) rfl hl.1 rfl (Nat.le_of_ble_eq_true rfl) ⟨Nat.zero_le _, Nat.zero_le _⟩ d_L_result_IJJ_135 ?_
                            refine lv_lload_n hx hb d_L_result_IJJ_138 rfl (lv_at hl 2 rfl) ?_
                            refine pu_l (As := [.long x3]) (rest := [.long (f_I_toFloat_J x1), .int x0]) ⟨hx, hb, hml, hown, hts⟩ (c_I_toFloat_J l _ x3) pu_pre (gw_call (k := 1) hts tw_313 tw_79 tw_5 tw_80 (by decide +kernel) rfl rfl ⟨Nat.le_of_ble_eq_true rfl, Nat.le_of_ble_eq_true rfl⟩) rfl hl.1 rfl (Nat.le_of_ble_eq_true rfl) ⟨Nat.zero_le _, Nat.zero_le _⟩ d_L_result_IJJ_139 ?_
                            refine pu_l (As := [.int x0, .long (f_I_toFloat_J x1), .long (f_I_toFloat_J x3)]) (rest := []) ⟨hx, hb, hml, hown, hts⟩ (c_L_floatResult_IJJ l _ x0 (f_I_toFloat_J x1) (f_I_toFloat_J x3)) pu_pre (gw_call (k := 3) hts tw_322 tw_323 tw_1 tw_324 (by decide +kernel) rfl rfl ⟨Nat.le_of_ble_eq_true rfl, Nat.le_of_ble_eq_true rfl⟩) rfl hl.1 rfl (Nat.le_of_ble_eq_true rfl) ⟨Nat.zero_le _, Nat.zero_le _⟩ d_L_result_IJJ_142 ?_
                            exact pu_lret hx hb hr hlocks d_L_result_IJJ_145 (by exact Eq.symm (Eq.trans (if_neg c1) (Eq.trans (if_neg c2) (Eq.trans (if_neg c3) (Eq.trans (if_neg c4) (Eq.trans (if_neg c5) (Eq.trans (if_neg c6) (Eq.trans (if_neg c7) (Eq.trans (if_neg c8) (Eq.trans (if_neg c9) (Eq.trans (if_neg c10) (Eq.trans (if_neg c11) (Eq.trans (if_neg c12) (if_pos c13))))))))))))))
                          · skip
                            by_cases c14 : x0 = 13
                            · refine lv_tableIn (off := 120) (tgt := 121) hx hb d_L_result_IJJ_1 (by rw [c14]; decide) (by rw [c14]; decide) (by rw [c14]; rfl) (by decide) ?_
                              refine lv_lload_n hx hb d_L_result_IJJ_121 rfl (lv_at hl 1 rfl) ?_
                              refine lv_lload_n hx hb d_L_result_IJJ_122 rfl (lv_at hl 2 rfl) ?_
                              refine pu_l (As := [.long x1, .long x3]) (rest := []) ⟨hx, hb, hml, hown, hts⟩ (c_I_lesser_JJ l _ x1 x3) pu_pre (gw_call (k := 2) hts tw_314 tw_315 tw_5 tw_316 (by decide +kernel) rfl rfl ⟨Nat.le_of_ble_eq_true rfl, Nat.le_of_ble_eq_true rfl⟩) rfl hl.1 rfl (Nat.le_of_ble_eq_true rfl) ⟨Nat.zero_le _, Nat.zero_le _⟩ d_L_result_IJJ_123 ?_
                              exact pu_lret hx hb hr hlocks d_L_result_IJJ_126 (by exact Eq.symm (Eq.trans (if_neg c1) (Eq.trans (if_neg c2) (Eq.trans (if_neg c3) (Eq.trans (if_neg c4) (Eq.trans (if_neg c5) (Eq.trans (if_neg c6) (Eq.trans (if_neg c7) (Eq.trans (if_neg c8) (Eq.trans (if_neg c9) (Eq.trans (if_neg c10) (Eq.trans (if_neg c11) (Eq.trans (if_neg c12) (Eq.trans (if_neg c13) (if_pos c14)))))))))))))))
                            · skip
                              by_cases c15 : x0 = 14
                              · refine lv_tableIn (off := 126) (tgt := 127) hx hb d_L_result_IJJ_1 (by rw [c15]; decide) (by rw [c15]; decide) (by rw [c15]; rfl) (by decide) ?_
                                refine lv_lload_n hx hb d_L_result_IJJ_127 rfl (lv_at hl 1 rfl) ?_
                                refine lv_lload_n hx hb d_L_result_IJJ_128 rfl (lv_at hl 2 rfl) ?_
                                refine pu_l (As := [.long x1, .long x3]) (rest := []) ⟨hx, hb, hml, hown, hts⟩ (c_I_greater_JJ l _ x1 x3) pu_pre (gw_call (k := 2) hts tw_317 tw_318 tw_5 tw_319 (by decide +kernel) rfl rfl ⟨Nat.le_of_ble_eq_true rfl, Nat.le_of_ble_eq_true rfl⟩) rfl hl.1 rfl (Nat.le_of_ble_eq_true rfl) ⟨Nat.zero_le _, Nat.zero_le _⟩ d_L_result_IJJ_129 ?_
                                exact pu_lret hx hb hr hlocks d_L_result_IJJ_132 (by exact Eq.symm (Eq.trans (if_neg c1) (Eq.trans (if_neg c2) (Eq.trans (if_neg c3) (Eq.trans (if_neg c4) (Eq.trans (if_neg c5) (Eq.trans (if_neg c6) (Eq.trans (if_neg c7) (Eq.trans (if_neg c8) (Eq.trans (if_neg c9) (Eq.trans (if_neg c10) (Eq.trans (if_neg c11) (Eq.trans (if_neg c12) (Eq.trans (if_neg c13) (Eq.trans (if_neg c14) (if_pos c15))))))))))))))))
                              · skip
                                refine lv_tableOut (tgt := 133) hx hb d_L_result_IJJ_1 (sw_out (fun j h1 h2 e => by rcases (show j = 0 ∨ j = 1 ∨ j = 2 ∨ j = 3 ∨ j = 4 ∨ j = 5 ∨ j = 6 ∨ j = 7 ∨ j = 8 ∨ j = 9 ∨ j = 10 ∨ j = 11 ∨ j = 12 ∨ j = 13 ∨ j = 14 by omega) with rfl | rfl | rfl | rfl | rfl | rfl | rfl | rfl | rfl | rfl | rfl | rfl | rfl | rfl | rfl <;> first | exact c1 (Int32.toInt_inj.mp (e.trans (by decide))) | exact c2 (Int32.toInt_inj.mp (e.trans (by decide))) | exact c3 (Int32.toInt_inj.mp (e.trans (by decide))) | exact c4 (Int32.toInt_inj.mp (e.trans (by decide))) | exact c5 (Int32.toInt_inj.mp (e.trans (by decide))) | exact c6 (Int32.toInt_inj.mp (e.trans (by decide))) | exact c7 (Int32.toInt_inj.mp (e.trans (by decide))) | exact c8 (Int32.toInt_inj.mp (e.trans (by decide))) | exact c9 (Int32.toInt_inj.mp (e.trans (by decide))) | exact c10 (Int32.toInt_inj.mp (e.trans (by decide))) | exact c11 (Int32.toInt_inj.mp (e.trans (by decide))) | exact c12 (Int32.toInt_inj.mp (e.trans (by decide))) | exact c13 (Int32.toInt_inj.mp (e.trans (by decide))) | exact c14 (Int32.toInt_inj.mp (e.trans (by decide))) | exact c15 (Int32.toInt_inj.mp (e.trans (by decide))))) (by decide) ?_
                                refine lv_iload_n hx hb d_L_result_IJJ_133 rfl (lv_at hl 0 rfl) ?_
                                refine lv_lload_n hx hb d_L_result_IJJ_134 rfl (lv_at hl 1 rfl) ?_
                                refine pu_l (As := [.long x1]) (rest := [.int x0]) ⟨hx, hb, hml, hown, hts⟩ (c_I_toFloat_J l _ x1) pu_pre (gw_call (k := 1) hts tw_313 tw_79 tw_5 tw_80 (by decide +kernel) rfl rfl ⟨Nat.le_of_ble_eq_true rfl, Nat.le_of_ble_eq_true rfl⟩) rfl hl.1 rfl (Nat.le_of_ble_eq_true rfl) ⟨Nat.zero_le _, Nat.zero_le _⟩ d_L_result_IJJ_135 ?_
                                refine lv_lload_n hx hb d_L_result_IJJ_138 rfl (lv_at hl 2 rfl) ?_
                                refine pu_l (As := [.long x3]) (rest := [.long (f_I_toFloat_J x1), .int x0]) ⟨hx, hb, hml, hown, hts⟩ (c_I_toFloat_J l _ x3) pu_pre (gw_call (k := 1) hts tw_313 tw_79 tw_5 tw_80 (by decide +kernel) rfl rfl ⟨Nat.le_of_ble_eq_true rfl, Nat.le_of_ble_eq_true rfl⟩) rfl hl.1 rfl (Nat.le_of_ble_eq_true rfl) ⟨Nat.zero_le _, Nat.zero_le _⟩ d_L_result_IJJ_139 ?_
                                refine pu_l (As := [.int x0, .long (f_I_toFloat_J x1), .long (f_I_toFloat_J x3)]) (rest := []) ⟨hx, hb, hml, hown, hts⟩ (c_L_floatResult_IJJ l _ x0 (f_I_toFloat_J x1) (f_I_toFloat_J x3)) pu_pre (gw_call (k := 3) hts tw_322 tw_323 tw_1 tw_324 (by decide +kernel) rfl rfl ⟨Nat.le_of_ble_eq_true rfl, Nat.le_of_ble_eq_true rfl⟩) rfl hl.1 rfl (Nat.le_of_ble_eq_true rfl) ⟨Nat.zero_le _, Nat.zero_le _⟩ d_L_result_IJJ_142 ?_
                                exact pu_lret hx hb hr hlocks d_L_result_IJJ_145 (by exact Eq.symm (Eq.trans (if_neg c1) (Eq.trans (if_neg c2) (Eq.trans (if_neg c3) (Eq.trans (if_neg c4) (Eq.trans (if_neg c5) (Eq.trans (if_neg c6) (Eq.trans (if_neg c7) (Eq.trans (if_neg c8) (Eq.trans (if_neg c9) (Eq.trans (if_neg c10) (Eq.trans (if_neg c11) (Eq.trans (if_neg c12) (Eq.trans (if_neg c13) (Eq.trans (if_neg c14) (if_neg c15))))))))))))))))
-- ===== java/lang/Math.abs(J)J
abbrev y_jM_abs_J : MethodName := ⟨"java/lang/Math", "abs", "(J)J"⟩
abbrev b_jM_abs_J : ByteArray := prog_9_method_61_code
theorem d_jM_abs_J_0 : decode b_jM_abs_J 0 = .ok (.lload_n 0, 1) := by decide +kernel
theorem d_jM_abs_J_1 : decode b_jM_abs_J 1 = .ok (.lconst 0, 1) := by decide +kernel
theorem d_jM_abs_J_2 : decode b_jM_abs_J 2 = .ok (.lcmp, 1) := by decide +kernel
theorem d_jM_abs_J_3 : decode b_jM_abs_J 3 = .ok (.ifCond .ge 8, 3) := by decide +kernel
theorem d_jM_abs_J_6 : decode b_jM_abs_J 6 = .ok (.lload_n 0, 1) := by decide +kernel
theorem d_jM_abs_J_7 : decode b_jM_abs_J 7 = .ok (.lneg, 1) := by decide +kernel
theorem d_jM_abs_J_8 : decode b_jM_abs_J 8 = .ok (.goto 4, 3) := by decide +kernel
theorem d_jM_abs_J_11 : decode b_jM_abs_J 11 = .ok (.lload_n 0, 1) := by decide +kernel
theorem d_jM_abs_J_12 : decode b_jM_abs_J 12 = .ok (.lreturn, 1) := by decide +kernel
def f_jM_abs_J (x0 : Int64) : Int64 :=
  if 0 ≤ (lg_cmp x0 (0 : Int64)) then
    x0
  else
    -x0
set_option maxHeartbeats 4000000 in
set_option maxRecDepth 100000 in
theorem c_jM_abs_J (l : Launch) (h : Heap) (x0 : Int64) : Met l y_jM_abs_J (gw y_jM_abs_J b_jM_abs_J 2 (some .long)) { frames := 0, cells := 0, slots := 0, locals := 0 } (pu_Pc [.long x0] h) (pu_Ml (f_jM_abs_J x0) h) 0 0 (fun _ => False) := by
  refine va_MetF (cc := b_jM_abs_J) (maxL := 2) (ret := (some .long)) (by decide +kernel) rfl ?_
  intro p e s m args below meth c s₁ B hml hv
  obtain ⟨rfl, hh⟩ := hv
  subst hh
  have hx := B.exec
  have hb := B.bytes
  have hr := B.returns
  have hts := atoms_spec (ws := (gw y_jM_abs_J b_jM_abs_J 2 (some .long))) B.pre
  have hown : s.vm.findClass "java/lang/Math" = some m.cls := findClass_of_methodNamed B.named
  have hlocks := B.notSynchronized
  have C0 : pu_C p s m _ meth c b_jM_abs_J 2 "java/lang/Math" (some .long) (gw y_jM_abs_J b_jM_abs_J 2 (some .long)) := ⟨hx, hb, hml, hown, hts, hr, hlocks⟩
  have hl := lv_entry ([.long x0]) (n := 2) (Nat.le_of_ble_eq_true rfl)
  rw [lg_entry_eq]
  generalize (lg_sl ([.long x0]) ++ List.replicate (2 - (lg_sl ([.long x0])).length) Slot.unset).toArray = ls at hl ⊢
  have hl : lv_has ls 2 [(0, .long x0)] := hl
  refine lv_lload_n hx hb d_jM_abs_J_0 rfl (lv_at hl 0 rfl) ?_
  refine lv_lconst (v := (0 : Int64)) hx hb d_jM_abs_J_1 (by decide) ?_
  refine W.lcmp hx hb d_jM_abs_J_2 ?_
  refine lv_if_ge (tgt := 11) hx hb d_jM_abs_J_3 (by decide) (fun c1 => ?_) (fun c1 => ?_)
  · refine lv_lload_n hx hb d_jM_abs_J_11 rfl (lv_at hl 0 rfl) ?_
    exact pu_lret hx hb hr hlocks d_jM_abs_J_12 (by exact Eq.symm (if_pos c1))
  · refine lv_lload_n hx hb d_jM_abs_J_6 rfl (lv_at hl 0 rfl) ?_
    refine lv_lneg hx hb d_jM_abs_J_7 ?_
    refine lv_goto (tgt := 12) hx hb d_jM_abs_J_8 (by decide) ?_
    exact pu_lret hx hb hr hlocks d_jM_abs_J_12 (by exact Eq.symm (if_neg c1))
-- ===== MotionLab$Ieee.ofWhole(J)J
abbrev y_I_ofWhole_J : MethodName := ⟨"MotionLab$Ieee", "ofWhole", "(J)J"⟩
abbrev b_I_ofWhole_J : ByteArray := prog_2_method_26_code
theorem d_I_ofWhole_J_0 : decode b_I_ofWhole_J 0 = .ok (.lload_n 0, 1) := by decide +kernel
theorem d_I_ofWhole_J_1 : decode b_I_ofWhole_J 1 = .ok (.ldc2_w 19, 3) := by decide +kernel
theorem d_I_ofWhole_J_4 : decode b_I_ofWhole_J 4 = .ok (.land, 1) := by decide +kernel
theorem d_I_ofWhole_J_5 : decode b_I_ofWhole_J 5 = .ok (.iconst 0, 1) := by decide +kernel
theorem d_I_ofWhole_J_6 : decode b_I_ofWhole_J 6 = .ok (.lload_n 0, 1) := by decide +kernel
theorem d_I_ofWhole_J_7 : decode b_I_ofWhole_J 7 = .ok (.invokestatic 105, 3) := by decide +kernel
theorem d_I_ofWhole_J_10 : decode b_I_ofWhole_J 10 = .ok (.invokestatic 52, 3) := by decide +kernel
theorem d_I_ofWhole_J_13 : decode b_I_ofWhole_J 13 = .ok (.lreturn, 1) := by decide +kernel
def f_I_ofWhole_J (x0 : Int64) : Int64 :=
  f_I_nearest_JIJ (x0 &&& (-9223372036854775808 : Int64)) (0 : Int32) (f_jM_abs_J x0)
set_option maxHeartbeats 4000000 in
set_option maxRecDepth 100000 in
theorem c_I_ofWhole_J (l : Launch) (h : Heap) (x0 : Int64) : Met l y_I_ofWhole_J (gw y_I_ofWhole_J b_I_ofWhole_J 2 (some .long)) { frames := 3, cells := 0, slots := 0, locals := 69 } (pu_Pc [.long x0] h) (pu_Ml (f_I_ofWhole_J x0) h) 0 0 (fun _ => False) := by
  refine Met.ofW (cc := b_I_ofWhole_J) (maxL := 2) (ret := (some .long)) (by decide) rfl ?_
  intro p e s m args below meth c s₁ B hml hv
  obtain ⟨rfl, hh⟩ := hv
  subst hh
  have hx := B.exec
  have hb := B.bytes
  have hr := B.returns
  have hts := atoms_spec (ws := (gw y_I_ofWhole_J b_I_ofWhole_J 2 (some .long))) B.pre
  have hown : s.vm.findClass "MotionLab$Ieee" = some m.cls := findClass_of_methodNamed B.named
  have hlocks := B.notSynchronized
  have C0 : pu_C p s m _ meth c b_I_ofWhole_J 2 "MotionLab$Ieee" (some .long) (gw y_I_ofWhole_J b_I_ofWhole_J 2 (some .long)) := ⟨hx, hb, hml, hown, hts, hr, hlocks⟩
  have hl := lv_entry ([.long x0]) (n := 2) (Nat.le_of_ble_eq_true rfl)
  rw [lg_entry_eq]
  generalize (lg_sl ([.long x0]) ++ List.replicate (2 - (lg_sl ([.long x0])).length) Slot.unset).toArray = ls at hl ⊢
  have hl : lv_has ls 2 [(0, .long x0)] := hl
  refine lv_lload_n hx hb d_I_ofWhole_J_0 rfl (lv_at hl 0 rfl) ?_
  refine lv_ldc2 (v := (-9223372036854775808 : Int64)) hx hb hown (hts _ (gm tw_93)) d_I_ofWhole_J_1 ?_
  refine lv_land hx hb d_I_ofWhole_J_4 ?_
  refine lv_iconst (v := 0) hx hb d_I_ofWhole_J_5 (by decide) ?_
  refine lv_lload_n hx hb d_I_ofWhole_J_6 rfl (lv_at hl 0 rfl) ?_
  refine pu_l (As := [.long x0]) (rest := [.int (0 : Int32), .long (x0 &&& (-9223372036854775808 : Int64))]) ⟨hx, hb, hml, hown, hts⟩ (c_jM_abs_J l _ x0) pu_pre (gw_call (k := 1) hts tw_332 tw_333 tw_6 tw_334 (by decide +kernel) rfl rfl ⟨Nat.le_of_ble_eq_true rfl, Nat.le_of_ble_eq_true rfl⟩) rfl hl.1 rfl (Nat.le_of_ble_eq_true rfl) ⟨Nat.zero_le _, Nat.zero_le _⟩ d_I_ofWhole_J_7 ?_
  refine pu_l (As := [.long (x0 &&& (-9223372036854775808 : Int64)), .int (0 : Int32), .long (f_jM_abs_J x0)]) (rest := []) ⟨hx, hb, hml, hown, hts⟩ (c_I_nearest_JIJ l _ (x0 &&& (-9223372036854775808 : Int64)) (0 : Int32) (f_jM_abs_J x0)) pu_pre (gw_call (k := 3) hts tw_115 tw_116 tw_5 tw_117 (by decide +kernel) rfl rfl ⟨Nat.le_of_ble_eq_true rfl, Nat.le_of_ble_eq_true rfl⟩) rfl hl.1 rfl (Nat.le_of_ble_eq_true rfl) ⟨Nat.zero_le _, Nat.zero_le _⟩ d_I_ofWhole_J_10 ?_
  exact pu_lret hx hb hr hlocks d_I_ofWhole_J_13 (by exact Eq.symm rfl)
-- ===== MotionLab$Ieee.floatOfWhole(J)J
abbrev y_I_floatOfWhole_J : MethodName := ⟨"MotionLab$Ieee", "floatOfWhole", "(J)J"⟩
abbrev b_I_floatOfWhole_J : ByteArray := prog_2_method_27_code
theorem d_I_floatOfWhole_J_0 : decode b_I_floatOfWhole_J 0 = .ok (.lload_n 0, 1) := by decide +kernel
theorem d_I_floatOfWhole_J_1 : decode b_I_floatOfWhole_J 1 = .ok (.ldc2_w 19, 3) := by decide +kernel
theorem d_I_floatOfWhole_J_4 : decode b_I_floatOfWhole_J 4 = .ok (.land, 1) := by decide +kernel
theorem d_I_floatOfWhole_J_5 : decode b_I_floatOfWhole_J 5 = .ok (.iconst 0, 1) := by decide +kernel
theorem d_I_floatOfWhole_J_6 : decode b_I_floatOfWhole_J 6 = .ok (.lload_n 0, 1) := by decide +kernel
theorem d_I_floatOfWhole_J_7 : decode b_I_floatOfWhole_J 7 = .ok (.invokestatic 105, 3) := by decide +kernel
theorem d_I_floatOfWhole_J_10 : decode b_I_floatOfWhole_J 10 = .ok (.invokestatic 94, 3) := by decide +kernel
theorem d_I_floatOfWhole_J_13 : decode b_I_floatOfWhole_J 13 = .ok (.lreturn, 1) := by decide +kernel
def f_I_floatOfWhole_J (x0 : Int64) : Int64 :=
  f_I_nearestFloat_JIJ (x0 &&& (-9223372036854775808 : Int64)) (0 : Int32) (f_jM_abs_J x0)
set_option maxHeartbeats 4000000 in
set_option maxRecDepth 100000 in
theorem c_I_floatOfWhole_J (l : Launch) (h : Heap) (x0 : Int64) : Met l y_I_floatOfWhole_J (gw y_I_floatOfWhole_J b_I_floatOfWhole_J 2 (some .long)) { frames := 4, cells := 0, slots := 0, locals := 96 } (pu_Pc [.long x0] h) (pu_Ml (f_I_floatOfWhole_J x0) h) 0 0 (fun _ => False) := by
  refine Met.ofW (cc := b_I_floatOfWhole_J) (maxL := 2) (ret := (some .long)) (by decide) rfl ?_
  intro p e s m args below meth c s₁ B hml hv
  obtain ⟨rfl, hh⟩ := hv
  subst hh
  have hx := B.exec
  have hb := B.bytes
  have hr := B.returns
  have hts := atoms_spec (ws := (gw y_I_floatOfWhole_J b_I_floatOfWhole_J 2 (some .long))) B.pre
  have hown : s.vm.findClass "MotionLab$Ieee" = some m.cls := findClass_of_methodNamed B.named
  have hlocks := B.notSynchronized
  have C0 : pu_C p s m _ meth c b_I_floatOfWhole_J 2 "MotionLab$Ieee" (some .long) (gw y_I_floatOfWhole_J b_I_floatOfWhole_J 2 (some .long)) := ⟨hx, hb, hml, hown, hts, hr, hlocks⟩
  have hl := lv_entry ([.long x0]) (n := 2) (Nat.le_of_ble_eq_true rfl)
  rw [lg_entry_eq]
  generalize (lg_sl ([.long x0]) ++ List.replicate (2 - (lg_sl ([.long x0])).length) Slot.unset).toArray = ls at hl ⊢
  have hl : lv_has ls 2 [(0, .long x0)] := hl
  refine lv_lload_n hx hb d_I_floatOfWhole_J_0 rfl (lv_at hl 0 rfl) ?_
  refine lv_ldc2 (v := (-9223372036854775808 : Int64)) hx hb hown (hts _ (gm tw_93)) d_I_floatOfWhole_J_1 ?_
  refine lv_land hx hb d_I_floatOfWhole_J_4 ?_
  refine lv_iconst (v := 0) hx hb d_I_floatOfWhole_J_5 (by decide) ?_
  refine lv_lload_n hx hb d_I_floatOfWhole_J_6 rfl (lv_at hl 0 rfl) ?_
  refine pu_l (As := [.long x0]) (rest := [.int (0 : Int32), .long (x0 &&& (-9223372036854775808 : Int64))]) ⟨hx, hb, hml, hown, hts⟩ (c_jM_abs_J l _ x0) pu_pre (gw_call (k := 1) hts tw_332 tw_333 tw_6 tw_334 (by decide +kernel) rfl rfl ⟨Nat.le_of_ble_eq_true rfl, Nat.le_of_ble_eq_true rfl⟩) rfl hl.1 rfl (Nat.le_of_ble_eq_true rfl) ⟨Nat.zero_le _, Nat.zero_le _⟩ d_I_floatOfWhole_J_7 ?_
  refine pu_l (As := [.long (x0 &&& (-9223372036854775808 : Int64)), .int (0 : Int32), .long (f_jM_abs_J x0)]) (rest := []) ⟨hx, hb, hml, hown, hts⟩ (c_I_nearestFloat_JIJ l _ (x0 &&& (-9223372036854775808 : Int64)) (0 : Int32) (f_jM_abs_J x0)) pu_pre (gw_call (k := 3) hts tw_105 tw_106 tw_5 tw_107 (by decide +kernel) rfl rfl ⟨Nat.le_of_ble_eq_true rfl, Nat.le_of_ble_eq_true rfl⟩) rfl hl.1 rfl (Nat.le_of_ble_eq_true rfl) ⟨Nat.zero_le _, Nat.zero_le _⟩ d_I_floatOfWhole_J_10 ?_
  exact pu_lret hx hb hr hlocks d_I_floatOfWhole_J_13 (by exact Eq.symm rfl)
-- ===== MotionLab$Ieee.toLong(J)J
abbrev y_I_toLong_J : MethodName := ⟨"MotionLab$Ieee", "toLong", "(J)J"⟩
abbrev b_I_toLong_J : ByteArray := prog_2_method_29_code
theorem d_I_toLong_J_0 : decode b_I_toLong_J 0 = .ok (.lload_n 0, 1) := by decide +kernel
theorem d_I_toLong_J_1 : decode b_I_toLong_J 1 = .ok (.invokestatic 13, 3) := by decide +kernel
theorem d_I_toLong_J_4 : decode b_I_toLong_J 4 = .ok (.ifCond .eq 5, 3) := by decide +kernel
theorem d_I_toLong_J_7 : decode b_I_toLong_J 7 = .ok (.lconst 0, 1) := by decide +kernel
theorem d_I_toLong_J_8 : decode b_I_toLong_J 8 = .ok (.lreturn, 1) := by decide +kernel
theorem d_I_toLong_J_9 : decode b_I_toLong_J 9 = .ok (.lload_n 0, 1) := by decide +kernel
theorem d_I_toLong_J_10 : decode b_I_toLong_J 10 = .ok (.invokestatic 41, 3) := by decide +kernel
theorem d_I_toLong_J_13 : decode b_I_toLong_J 13 = .ok (.istore_n 2, 1) := by decide +kernel
theorem d_I_toLong_J_14 : decode b_I_toLong_J 14 = .ok (.iload_n 2, 1) := by decide +kernel
theorem d_I_toLong_J_15 : decode b_I_toLong_J 15 = .ok (.bipush 10, 2) := by decide +kernel
theorem d_I_toLong_J_17 : decode b_I_toLong_J 17 = .ok (.if_icmp .le 19, 3) := by decide +kernel
theorem d_I_toLong_J_20 : decode b_I_toLong_J 20 = .ok (.lload_n 0, 1) := by decide +kernel
theorem d_I_toLong_J_21 : decode b_I_toLong_J 21 = .ok (.lconst 0, 1) := by decide +kernel
theorem d_I_toLong_J_22 : decode b_I_toLong_J 22 = .ok (.lcmp, 1) := by decide +kernel
theorem d_I_toLong_J_23 : decode b_I_toLong_J 23 = .ok (.ifCond .ge 9, 3) := by decide +kernel
theorem d_I_toLong_J_26 : decode b_I_toLong_J 26 = .ok (.ldc2_w 19, 3) := by decide +kernel
theorem d_I_toLong_J_29 : decode b_I_toLong_J 29 = .ok (.goto 6, 3) := by decide +kernel
theorem d_I_toLong_J_32 : decode b_I_toLong_J 32 = .ok (.ldc2_w 9, 3) := by decide +kernel
theorem d_I_toLong_J_35 : decode b_I_toLong_J 35 = .ok (.lreturn, 1) := by decide +kernel
theorem d_I_toLong_J_36 : decode b_I_toLong_J 36 = .ok (.iload_n 2, 1) := by decide +kernel
theorem d_I_toLong_J_37 : decode b_I_toLong_J 37 = .ok (.bipush (-52), 2) := by decide +kernel
theorem d_I_toLong_J_39 : decode b_I_toLong_J 39 = .ok (.if_icmp .ge 5, 3) := by decide +kernel
theorem d_I_toLong_J_42 : decode b_I_toLong_J 42 = .ok (.lconst 0, 1) := by decide +kernel
theorem d_I_toLong_J_43 : decode b_I_toLong_J 43 = .ok (.lreturn, 1) := by decide +kernel
theorem d_I_toLong_J_44 : decode b_I_toLong_J 44 = .ok (.iload_n 2, 1) := by decide +kernel
theorem d_I_toLong_J_45 : decode b_I_toLong_J 45 = .ok (.ifCond .ge 13, 3) := by decide +kernel
theorem d_I_toLong_J_48 : decode b_I_toLong_J 48 = .ok (.lload_n 0, 1) := by decide +kernel
theorem d_I_toLong_J_49 : decode b_I_toLong_J 49 = .ok (.invokestatic 45, 3) := by decide +kernel
theorem d_I_toLong_J_52 : decode b_I_toLong_J 52 = .ok (.iload_n 2, 1) := by decide +kernel
theorem d_I_toLong_J_53 : decode b_I_toLong_J 53 = .ok (.ineg, 1) := by decide +kernel
theorem d_I_toLong_J_54 : decode b_I_toLong_J 54 = .ok (.lushr, 1) := by decide +kernel
theorem d_I_toLong_J_55 : decode b_I_toLong_J 55 = .ok (.goto 9, 3) := by decide +kernel
theorem d_I_toLong_J_58 : decode b_I_toLong_J 58 = .ok (.lload_n 0, 1) := by decide +kernel
theorem d_I_toLong_J_59 : decode b_I_toLong_J 59 = .ok (.invokestatic 45, 3) := by decide +kernel
theorem d_I_toLong_J_62 : decode b_I_toLong_J 62 = .ok (.iload_n 2, 1) := by decide +kernel
theorem d_I_toLong_J_63 : decode b_I_toLong_J 63 = .ok (.lshl, 1) := by decide +kernel
theorem d_I_toLong_J_64 : decode b_I_toLong_J 64 = .ok (.lstore_n 3, 1) := by decide +kernel
theorem d_I_toLong_J_65 : decode b_I_toLong_J 65 = .ok (.lload_n 0, 1) := by decide +kernel
theorem d_I_toLong_J_66 : decode b_I_toLong_J 66 = .ok (.lconst 0, 1) := by decide +kernel
theorem d_I_toLong_J_67 : decode b_I_toLong_J 67 = .ok (.lcmp, 1) := by decide +kernel
theorem d_I_toLong_J_68 : decode b_I_toLong_J 68 = .ok (.ifCond .ge 8, 3) := by decide +kernel
theorem d_I_toLong_J_71 : decode b_I_toLong_J 71 = .ok (.lload_n 3, 1) := by decide +kernel
theorem d_I_toLong_J_72 : decode b_I_toLong_J 72 = .ok (.lneg, 1) := by decide +kernel
theorem d_I_toLong_J_73 : decode b_I_toLong_J 73 = .ok (.goto 4, 3) := by decide +kernel
theorem d_I_toLong_J_76 : decode b_I_toLong_J 76 = .ok (.lload_n 3, 1) := by decide +kernel
theorem d_I_toLong_J_77 : decode b_I_toLong_J 77 = .ok (.lreturn, 1) := by decide +kernel
def f_I_toLong_J_64 (x0 : Int64) (s0 : Int64) : Int64 :=
  if 0 ≤ (lg_cmp x0 (0 : Int64)) then
    s0
  else
    -s0
set_option maxHeartbeats 4000000 in
set_option maxRecDepth 100000 in
theorem k_I_toLong_J_64 {p : Program} {l : Launch} {e : Env} {s : State} {m : MethodId} {args : Array Value} {below : List Frame} {meth : Method} {c : Code} (C0 : pu_C p s m args meth c b_I_toLong_J 5 "MotionLab$Ieee" (some .long) (gw y_I_toLong_J b_I_toLong_J 5 (some .long))) (x0 : Int64) (s0 : Int64) (ls : Array Slot) (hl : lv_has ls 5 [(0, .long x0)]) {w : Int64} (hw : w = f_I_toLong_J_64 x0 s0) : W p l e (headSpec (gw y_I_toLong_J b_I_toLong_J 5 (some .long)) ({ frames := 2, cells := 0, slots := 0, locals := 43 } : Room)).room s m args below meth c s.heap [] 0 0 (pu_Ql w below args s) (F0 m 64 ls [.long s0]) := by
  obtain ⟨hx, hb, hml, hown, hts, hr, hlocks⟩ := id C0
  refine lv_lstore_n (lv' := [(3, .long s0), (0, .long x0)]) hx hb d_I_toLong_J_64 rfl hl (by decide) rfl (fun ls hl => ?_)
  refine lv_lload_n hx hb d_I_toLong_J_65 rfl (lv_at hl 1 rfl) ?_
  refine lv_lconst (v := (0 : Int64)) hx hb d_I_toLong_J_66 (by decide) ?_
  refine W.lcmp hx hb d_I_toLong_J_67 ?_
  refine lv_if_ge (tgt := 76) hx hb d_I_toLong_J_68 (by decide) (fun c1 => ?_) (fun c1 => ?_)
  · refine lv_lload_n hx hb d_I_toLong_J_76 rfl (lv_at hl 0 rfl) ?_
    exact pu_lret hx hb hr hlocks d_I_toLong_J_77 (by exact Eq.symm (hw.trans (if_pos c1)))
  · refine lv_lload_n hx hb d_I_toLong_J_71 rfl (lv_at hl 0 rfl) ?_
    refine lv_lneg hx hb d_I_toLong_J_72 ?_
    refine lv_goto (tgt := 77) hx hb d_I_toLong_J_73 (by decide) ?_
    exact pu_lret hx hb hr hlocks d_I_toLong_J_77 (by exact Eq.symm (hw.trans (if_neg c1)))
def f_I_toLong_J (x0 : Int64) : Int64 :=
  if (f_I_isNoNumber_J x0) = 0 then
    let v2 : Int32 := f_I_power_J x0
    if v2 ≤ (10 : Int32) then
      if (-52 : Int32) ≤ v2 then
        if 0 ≤ v2 then
          f_I_toLong_J_64 x0 (j_shl (f_I_significand_J x0) v2)
        else
          f_I_toLong_J_64 x0 (j_ushr (f_I_significand_J x0) (-v2))
      else
        (0 : Int64)
    else
      if 0 ≤ (lg_cmp x0 (0 : Int64)) then
        (9223372036854775807 : Int64)
      else
        (-9223372036854775808 : Int64)
  else
    (0 : Int64)
set_option maxHeartbeats 4000000 in
set_option maxRecDepth 100000 in
theorem c_I_toLong_J (l : Launch) (h : Heap) (x0 : Int64) : Met l y_I_toLong_J (gw y_I_toLong_J b_I_toLong_J 5 (some .long)) { frames := 2, cells := 0, slots := 0, locals := 43 } (pu_Pc [.long x0] h) (pu_Ml (f_I_toLong_J x0) h) 0 0 (fun _ => False) := by
  refine Met.ofW (cc := b_I_toLong_J) (maxL := 5) (ret := (some .long)) (by decide) rfl ?_
  intro p e s m args below meth c s₁ B hml hv
  obtain ⟨rfl, hh⟩ := hv
  subst hh
  have hx := B.exec
  have hb := B.bytes
  have hr := B.returns
  have hts := atoms_spec (ws := (gw y_I_toLong_J b_I_toLong_J 5 (some .long))) B.pre
  have hown : s.vm.findClass "MotionLab$Ieee" = some m.cls := findClass_of_methodNamed B.named
  have hlocks := B.notSynchronized
  have C0 : pu_C p s m _ meth c b_I_toLong_J 5 "MotionLab$Ieee" (some .long) (gw y_I_toLong_J b_I_toLong_J 5 (some .long)) := ⟨hx, hb, hml, hown, hts, hr, hlocks⟩
  have hl := lv_entry ([.long x0]) (n := 5) (Nat.le_of_ble_eq_true rfl)
  rw [lg_entry_eq]
  generalize (lg_sl ([.long x0]) ++ List.replicate (5 - (lg_sl ([.long x0])).length) Slot.unset).toArray = ls at hl ⊢
  have hl : lv_has ls 5 [(0, .long x0)] := hl
  refine lv_lload_n hx hb d_I_toLong_J_0 rfl (lv_at hl 0 rfl) ?_
  refine pu_i (As := [.long x0]) (rest := []) ⟨hx, hb, hml, hown, hts⟩ (c_I_isNoNumber_J l _ x0) pu_pre (gw_call (k := 1) hts tw_89 tw_90 tw_5 tw_91 (by decide +kernel) rfl rfl ⟨Nat.le_of_ble_eq_true rfl, Nat.le_of_ble_eq_true rfl⟩) rfl hl.1 rfl (Nat.le_of_ble_eq_true rfl) ⟨Nat.zero_le _, Nat.zero_le _⟩ d_I_toLong_J_1 ?_
  refine lv_if_eq (tgt := 9) hx hb d_I_toLong_J_4 (by decide) (fun c1 => ?_) (fun c1 => ?_)
  · refine lv_lload_n hx hb d_I_toLong_J_9 rfl (lv_at hl 0 rfl) ?_
    refine pu_i (As := [.long x0]) (rest := []) ⟨hx, hb, hml, hown, hts⟩ (c_I_power_J l _ x0) pu_pre (gw_call (k := 1) hts tw_94 tw_95 tw_5 tw_96 (by decide +kernel) rfl rfl ⟨Nat.le_of_ble_eq_true rfl, Nat.le_of_ble_eq_true rfl⟩) rfl hl.1 rfl (Nat.le_of_ble_eq_true rfl) ⟨Nat.zero_le _, Nat.zero_le _⟩ d_I_toLong_J_10 ?_
    refine lv_topi (fun v2 e2 => ?_)
    refine lv_istore_n (lv' := [(2, .int v2), (0, .long x0)]) hx hb d_I_toLong_J_13 rfl hl (by decide) rfl (fun ls hl => ?_)
    refine lv_iload_n hx hb d_I_toLong_J_14 rfl (lv_at hl 0 rfl) ?_
    refine lv_bipush (v := (10 : Int32)) hx hb d_I_toLong_J_15 (by decide) ?_
    refine lv_icmp_le (tgt := 36) hx hb d_I_toLong_J_17 (by decide) (fun c3 => ?_) (fun c3 => ?_)
    · refine lv_iload_n hx hb d_I_toLong_J_36 rfl (lv_at hl 0 rfl) ?_
      refine lv_bipush (v := (-52 : Int32)) hx hb d_I_toLong_J_37 (by decide) ?_
      refine lv_icmp_ge (tgt := 44) hx hb d_I_toLong_J_39 (by decide) (fun c4 => ?_) (fun c4 => ?_)
      · refine lv_iload_n hx hb d_I_toLong_J_44 rfl (lv_at hl 0 rfl) ?_
        refine lv_if_ge (tgt := 58) hx hb d_I_toLong_J_45 (by decide) (fun c5 => ?_) (fun c5 => ?_)
        · refine lv_lload_n hx hb d_I_toLong_J_58 rfl (lv_at hl 1 rfl) ?_
          refine pu_l (As := [.long x0]) (rest := []) ⟨hx, hb, hml, hown, hts⟩ (c_I_significand_J l _ x0) pu_pre (gw_call (k := 1) hts tw_100 tw_101 tw_5 tw_102 (by decide +kernel) rfl rfl ⟨Nat.le_of_ble_eq_true rfl, Nat.le_of_ble_eq_true rfl⟩) rfl hl.1 rfl (Nat.le_of_ble_eq_true rfl) ⟨Nat.zero_le _, Nat.zero_le _⟩ d_I_toLong_J_59 ?_
          refine lv_iload_n hx hb d_I_toLong_J_62 rfl (lv_at hl 0 rfl) ?_
          refine lv_lshl (v := j_shl (f_I_significand_J x0) v2) hx hb d_I_toLong_J_63 rfl ?_
          exact k_I_toLong_J_64 C0 x0 (j_shl (f_I_significand_J x0) v2) ls (lv_sub hl [1] rfl) (by have qe2 := e2.symm; subst qe2; exact (Eq.trans (if_pos c1) (Eq.trans (if_pos c3) (Eq.trans (if_pos c4) (if_pos c5)))))
        · refine lv_lload_n hx hb d_I_toLong_J_48 rfl (lv_at hl 1 rfl) ?_
          refine pu_l (As := [.long x0]) (rest := []) ⟨hx, hb, hml, hown, hts⟩ (c_I_significand_J l _ x0) pu_pre (gw_call (k := 1) hts tw_100 tw_101 tw_5 tw_102 (by decide +kernel) rfl rfl ⟨Nat.le_of_ble_eq_true rfl, Nat.le_of_ble_eq_true rfl⟩) rfl hl.1 rfl (Nat.le_of_ble_eq_true rfl) ⟨Nat.zero_le _, Nat.zero_le _⟩ d_I_toLong_J_49 ?_
          refine lv_iload_n hx hb d_I_toLong_J_52 rfl (lv_at hl 0 rfl) ?_
          refine lv_ineg hx hb d_I_toLong_J_53 ?_
          refine lv_lushr (v := j_ushr (f_I_significand_J x0) (-v2)) hx hb d_I_toLong_J_54 rfl ?_
          refine lv_goto (tgt := 64) hx hb d_I_toLong_J_55 (by decide) ?_
          exact k_I_toLong_J_64 C0 x0 (j_ushr (f_I_significand_J x0) (-v2)) ls (lv_sub hl [1] rfl) (by have qe2 := e2.symm; subst qe2; exact (Eq.trans (if_pos c1) (Eq.trans (if_pos c3) (Eq.trans (if_pos c4) (if_neg c5)))))
      · refine lv_lconst (v := (0 : Int64)) hx hb d_I_toLong_J_42 (by decide) ?_
        exact pu_lret hx hb hr hlocks d_I_toLong_J_43 (by have qe2 := e2.symm; subst qe2; exact Eq.symm (Eq.trans (if_pos c1) (Eq.trans (if_pos c3) (if_neg c4))))
    · refine lv_lload_n hx hb d_I_toLong_J_20 rfl (lv_at hl 1 rfl) ?_
      refine lv_lconst (v := (0 : Int64)) hx hb d_I_toLong_J_21 (by decide) ?_
      refine W.lcmp hx hb d_I_toLong_J_22 ?_
      refine lv_if_ge (tgt := 32) hx hb d_I_toLong_J_23 (by decide) (fun c6 => ?_) (fun c6 => ?_)
      · refine lv_ldc2 (v := (9223372036854775807 : Int64)) hx hb hown (hts _ (gm tw_84)) d_I_toLong_J_32 ?_
        exact pu_lret hx hb hr hlocks d_I_toLong_J_35 (by have qe2 := e2.symm; subst qe2; exact Eq.symm (Eq.trans (if_pos c1) (Eq.trans (if_neg c3) (if_pos c6))))
      · refine lv_ldc2 (v := (-9223372036854775808 : Int64)) hx hb hown (hts _ (gm tw_93)) d_I_toLong_J_26 ?_
        refine lv_goto (tgt := 35) hx hb d_I_toLong_J_29 (by decide) ?_
        exact pu_lret hx hb hr hlocks d_I_toLong_J_35 (by have qe2 := e2.symm; subst qe2; exact Eq.symm (Eq.trans (if_pos c1) (Eq.trans (if_neg c3) (if_neg c6))))
  · refine lv_lconst (v := (0 : Int64)) hx hb d_I_toLong_J_7 (by decide) ?_
    exact pu_lret hx hb hr hlocks d_I_toLong_J_8 (by exact Eq.symm (if_neg c1))
-- ===== java/lang/Math.min(JJ)J
abbrev y_jM_min_JJ : MethodName := ⟨"java/lang/Math", "min", "(JJ)J"⟩
abbrev b_jM_min_JJ : ByteArray := prog_9_method_70_code
theorem d_jM_min_JJ_0 : decode b_jM_min_JJ 0 = .ok (.lload_n 0, 1) := by decide +kernel
theorem d_jM_min_JJ_1 : decode b_jM_min_JJ 1 = .ok (.lload_n 2, 1) := by decide +kernel
theorem d_jM_min_JJ_2 : decode b_jM_min_JJ 2 = .ok (.lcmp, 1) := by decide +kernel
theorem d_jM_min_JJ_3 : decode b_jM_min_JJ 3 = .ok (.ifCond .gt 7, 3) := by decide +kernel
theorem d_jM_min_JJ_6 : decode b_jM_min_JJ 6 = .ok (.lload_n 0, 1) := by decide +kernel
theorem d_jM_min_JJ_7 : decode b_jM_min_JJ 7 = .ok (.goto 4, 3) := by decide +kernel
theorem d_jM_min_JJ_10 : decode b_jM_min_JJ 10 = .ok (.lload_n 2, 1) := by decide +kernel
theorem d_jM_min_JJ_11 : decode b_jM_min_JJ 11 = .ok (.lreturn, 1) := by decide +kernel
def f_jM_min_JJ (x0 : Int64) (x2 : Int64) : Int64 :=
  if 0 < (lg_cmp x0 x2) then
    x2
  else
    x0
set_option maxHeartbeats 4000000 in
set_option maxRecDepth 100000 in
theorem c_jM_min_JJ (l : Launch) (h : Heap) (x0 : Int64) (x2 : Int64) : Met l y_jM_min_JJ (gw y_jM_min_JJ b_jM_min_JJ 4 (some .long)) { frames := 0, cells := 0, slots := 0, locals := 0 } (pu_Pc [.long x0, .long x2] h) (pu_Ml (f_jM_min_JJ x0 x2) h) 0 0 (fun _ => False) := by
  refine va_MetF (cc := b_jM_min_JJ) (maxL := 4) (ret := (some .long)) (by decide +kernel) rfl ?_
  intro p e s m args below meth c s₁ B hml hv
  obtain ⟨rfl, hh⟩ := hv
  subst hh
  have hx := B.exec
  have hb := B.bytes
  have hr := B.returns
  have hts := atoms_spec (ws := (gw y_jM_min_JJ b_jM_min_JJ 4 (some .long))) B.pre
  have hown : s.vm.findClass "java/lang/Math" = some m.cls := findClass_of_methodNamed B.named
  have hlocks := B.notSynchronized
  have C0 : pu_C p s m _ meth c b_jM_min_JJ 4 "java/lang/Math" (some .long) (gw y_jM_min_JJ b_jM_min_JJ 4 (some .long)) := ⟨hx, hb, hml, hown, hts, hr, hlocks⟩
  have hl := lv_entry ([.long x0, .long x2]) (n := 4) (Nat.le_of_ble_eq_true rfl)
  rw [lg_entry_eq]
  generalize (lg_sl ([.long x0, .long x2]) ++ List.replicate (4 - (lg_sl ([.long x0, .long x2])).length) Slot.unset).toArray = ls at hl ⊢
  have hl : lv_has ls 4 [(0, .long x0), (2, .long x2)] := hl
  refine lv_lload_n hx hb d_jM_min_JJ_0 rfl (lv_at hl 0 rfl) ?_
  refine lv_lload_n hx hb d_jM_min_JJ_1 rfl (lv_at hl 1 rfl) ?_
  refine W.lcmp hx hb d_jM_min_JJ_2 ?_
  refine lv_if_gt (tgt := 10) hx hb d_jM_min_JJ_3 (by decide) (fun c1 => ?_) (fun c1 => ?_)
  · refine lv_lload_n hx hb d_jM_min_JJ_10 rfl (lv_at hl 1 rfl) ?_
    exact pu_lret hx hb hr hlocks d_jM_min_JJ_11 (by exact Eq.symm (if_pos c1))
  · refine lv_lload_n hx hb d_jM_min_JJ_6 rfl (lv_at hl 0 rfl) ?_
    refine lv_goto (tgt := 11) hx hb d_jM_min_JJ_7 (by decide) ?_
    exact pu_lret hx hb hr hlocks d_jM_min_JJ_11 (by exact Eq.symm (if_neg c1))
-- ===== java/lang/Math.max(JJ)J
abbrev y_jM_max_JJ : MethodName := ⟨"java/lang/Math", "max", "(JJ)J"⟩
abbrev b_jM_max_JJ : ByteArray := prog_9_method_66_code
theorem d_jM_max_JJ_0 : decode b_jM_max_JJ 0 = .ok (.lload_n 0, 1) := by decide +kernel
theorem d_jM_max_JJ_1 : decode b_jM_max_JJ 1 = .ok (.lload_n 2, 1) := by decide +kernel
theorem d_jM_max_JJ_2 : decode b_jM_max_JJ 2 = .ok (.lcmp, 1) := by decide +kernel
theorem d_jM_max_JJ_3 : decode b_jM_max_JJ 3 = .ok (.ifCond .lt 7, 3) := by decide +kernel
theorem d_jM_max_JJ_6 : decode b_jM_max_JJ 6 = .ok (.lload_n 0, 1) := by decide +kernel
theorem d_jM_max_JJ_7 : decode b_jM_max_JJ 7 = .ok (.goto 4, 3) := by decide +kernel
theorem d_jM_max_JJ_10 : decode b_jM_max_JJ 10 = .ok (.lload_n 2, 1) := by decide +kernel
theorem d_jM_max_JJ_11 : decode b_jM_max_JJ 11 = .ok (.lreturn, 1) := by decide +kernel
def f_jM_max_JJ (x0 : Int64) (x2 : Int64) : Int64 :=
  if (lg_cmp x0 x2) < 0 then
    x2
  else
    x0
set_option maxHeartbeats 4000000 in
set_option maxRecDepth 100000 in
theorem c_jM_max_JJ (l : Launch) (h : Heap) (x0 : Int64) (x2 : Int64) : Met l y_jM_max_JJ (gw y_jM_max_JJ b_jM_max_JJ 4 (some .long)) { frames := 0, cells := 0, slots := 0, locals := 0 } (pu_Pc [.long x0, .long x2] h) (pu_Ml (f_jM_max_JJ x0 x2) h) 0 0 (fun _ => False) := by
  refine va_MetF (cc := b_jM_max_JJ) (maxL := 4) (ret := (some .long)) (by decide +kernel) rfl ?_
  intro p e s m args below meth c s₁ B hml hv
  obtain ⟨rfl, hh⟩ := hv
  subst hh
  have hx := B.exec
  have hb := B.bytes
  have hr := B.returns
  have hts := atoms_spec (ws := (gw y_jM_max_JJ b_jM_max_JJ 4 (some .long))) B.pre
  have hown : s.vm.findClass "java/lang/Math" = some m.cls := findClass_of_methodNamed B.named
  have hlocks := B.notSynchronized
  have C0 : pu_C p s m _ meth c b_jM_max_JJ 4 "java/lang/Math" (some .long) (gw y_jM_max_JJ b_jM_max_JJ 4 (some .long)) := ⟨hx, hb, hml, hown, hts, hr, hlocks⟩
  have hl := lv_entry ([.long x0, .long x2]) (n := 4) (Nat.le_of_ble_eq_true rfl)
  rw [lg_entry_eq]
  generalize (lg_sl ([.long x0, .long x2]) ++ List.replicate (4 - (lg_sl ([.long x0, .long x2])).length) Slot.unset).toArray = ls at hl ⊢
  have hl : lv_has ls 4 [(0, .long x0), (2, .long x2)] := hl
  refine lv_lload_n hx hb d_jM_max_JJ_0 rfl (lv_at hl 0 rfl) ?_
  refine lv_lload_n hx hb d_jM_max_JJ_1 rfl (lv_at hl 1 rfl) ?_
  refine W.lcmp hx hb d_jM_max_JJ_2 ?_
  refine lv_if_lt (tgt := 10) hx hb d_jM_max_JJ_3 (by decide) (fun c1 => ?_) (fun c1 => ?_)
  · refine lv_lload_n hx hb d_jM_max_JJ_10 rfl (lv_at hl 1 rfl) ?_
    exact pu_lret hx hb hr hlocks d_jM_max_JJ_11 (by exact Eq.symm (if_pos c1))
  · refine lv_lload_n hx hb d_jM_max_JJ_6 rfl (lv_at hl 0 rfl) ?_
    refine lv_goto (tgt := 11) hx hb d_jM_max_JJ_7 (by decide) ?_
    exact pu_lret hx hb hr hlocks d_jM_max_JJ_11 (by exact Eq.symm (if_neg c1))
-- ===== MotionLab$Ieee.toInt(J)I
abbrev y_I_toInt_J : MethodName := ⟨"MotionLab$Ieee", "toInt", "(J)I"⟩
abbrev b_I_toInt_J : ByteArray := prog_2_method_28_code
theorem d_I_toInt_J_0 : decode b_I_toInt_J 0 = .ok (.ldc2_w 108, 3) := by decide +kernel
theorem d_I_toInt_J_3 : decode b_I_toInt_J 3 = .ok (.ldc2_w 110, 3) := by decide +kernel
theorem d_I_toInt_J_6 : decode b_I_toInt_J 6 = .ok (.lload_n 0, 1) := by decide +kernel
theorem d_I_toInt_J_7 : decode b_I_toInt_J 7 = .ok (.invokestatic 112, 3) := by decide +kernel
theorem d_I_toInt_J_10 : decode b_I_toInt_J 10 = .ok (.invokestatic 115, 3) := by decide +kernel
theorem d_I_toInt_J_13 : decode b_I_toInt_J 13 = .ok (.invokestatic 117, 3) := by decide +kernel
theorem d_I_toInt_J_16 : decode b_I_toInt_J 16 = .ok (.l2i, 1) := by decide +kernel
theorem d_I_toInt_J_17 : decode b_I_toInt_J 17 = .ok (.ireturn, 1) := by decide +kernel
def f_I_toInt_J (x0 : Int64) : Int32 :=
  (f_jM_max_JJ (-2147483648 : Int64) (f_jM_min_JJ (2147483647 : Int64) (f_I_toLong_J x0))).toInt32
set_option maxHeartbeats 4000000 in
set_option maxRecDepth 100000 in
theorem c_I_toInt_J (l : Launch) (h : Heap) (x0 : Int64) : Met l y_I_toInt_J (gw y_I_toInt_J b_I_toInt_J 2 (some .int)) { frames := 3, cells := 0, slots := 0, locals := 67 } (pu_Pc [.long x0] h) (pu_Mi (f_I_toInt_J x0) h) 0 0 (fun _ => False) := by
  refine Met.ofW (cc := b_I_toInt_J) (maxL := 2) (ret := (some .int)) (by decide) rfl ?_
  intro p e s m args below meth c s₁ B hml hv
  obtain ⟨rfl, hh⟩ := hv
  subst hh
  have hx := B.exec
  have hb := B.bytes
  have hr := B.returns
  have hts := atoms_spec (ws := (gw y_I_toInt_J b_I_toInt_J 2 (some .int))) B.pre
  have hown : s.vm.findClass "MotionLab$Ieee" = some m.cls := findClass_of_methodNamed B.named
  have hlocks := B.notSynchronized
  have C0 : pu_C p s m _ meth c b_I_toInt_J 2 "MotionLab$Ieee" (some .int) (gw y_I_toInt_J b_I_toInt_J 2 (some .int)) := ⟨hx, hb, hml, hown, hts, hr, hlocks⟩
  have hl := lv_entry ([.long x0]) (n := 2) (Nat.le_of_ble_eq_true rfl)
  rw [lg_entry_eq]
  generalize (lg_sl ([.long x0]) ++ List.replicate (2 - (lg_sl ([.long x0])).length) Slot.unset).toArray = ls at hl ⊢
  have hl : lv_has ls 2 [(0, .long x0)] := hl
  refine lv_ldc2 (v := (-2147483648 : Int64)) hx hb hown (hts _ (gm tw_346)) d_I_toInt_J_0 ?_
  refine lv_ldc2 (v := (2147483647 : Int64)) hx hb hown (hts _ (gm tw_347)) d_I_toInt_J_3 ?_
  refine lv_lload_n hx hb d_I_toInt_J_6 rfl (lv_at hl 0 rfl) ?_
  refine pu_l (As := [.long x0]) (rest := [.long (2147483647 : Int64), .long (-2147483648 : Int64)]) ⟨hx, hb, hml, hown, hts⟩ (c_I_toLong_J l _ x0) pu_pre (gw_call (k := 1) hts tw_348 tw_349 tw_5 tw_350 (by decide +kernel) rfl rfl ⟨Nat.le_of_ble_eq_true rfl, Nat.le_of_ble_eq_true rfl⟩) rfl hl.1 rfl (Nat.le_of_ble_eq_true rfl) ⟨Nat.zero_le _, Nat.zero_le _⟩ d_I_toInt_J_7 ?_
  refine pu_l (As := [.long (2147483647 : Int64), .long (f_I_toLong_J x0)]) (rest := [.long (-2147483648 : Int64)]) ⟨hx, hb, hml, hown, hts⟩ (c_jM_min_JJ l _ (2147483647 : Int64) (f_I_toLong_J x0)) pu_pre (gw_call (k := 2) hts tw_351 tw_352 tw_6 tw_353 (by decide +kernel) rfl rfl ⟨Nat.le_of_ble_eq_true rfl, Nat.le_of_ble_eq_true rfl⟩) rfl hl.1 rfl (Nat.le_of_ble_eq_true rfl) ⟨Nat.zero_le _, Nat.zero_le _⟩ d_I_toInt_J_10 ?_
  refine pu_l (As := [.long (-2147483648 : Int64), .long (f_jM_min_JJ (2147483647 : Int64) (f_I_toLong_J x0))]) (rest := []) ⟨hx, hb, hml, hown, hts⟩ (c_jM_max_JJ l _ (-2147483648 : Int64) (f_jM_min_JJ (2147483647 : Int64) (f_I_toLong_J x0))) pu_pre (gw_call (k := 2) hts tw_354 tw_355 tw_6 tw_356 (by decide +kernel) rfl rfl ⟨Nat.le_of_ble_eq_true rfl, Nat.le_of_ble_eq_true rfl⟩) rfl hl.1 rfl (Nat.le_of_ble_eq_true rfl) ⟨Nat.zero_le _, Nat.zero_le _⟩ d_I_toInt_J_13 ?_
  refine lv_l2i hx hb d_I_toInt_J_16 rfl ?_
  exact pu_iret hx hb hr hlocks d_I_toInt_J_17 (by exact Eq.symm rfl)
