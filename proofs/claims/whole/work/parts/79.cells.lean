-- ===== MotionLabModel.energy()J 
abbrev y_M_energy : MethodName := ⟨"MotionLabModel", "energy", "()J"⟩
abbrev b_M_energy : ByteArray := prog_6_method_56_code
theorem d_M_energy_0 : decode b_M_energy 0 = .ok (.lconst 0, 1) := by decide +kernel
theorem d_M_energy_1 : decode b_M_energy 1 = .ok (.lstore_n 1, 1) := by decide +kernel
theorem d_M_energy_2 : decode b_M_energy 2 = .ok (.iconst 0, 1) := by decide +kernel
theorem d_M_energy_3 : decode b_M_energy 3 = .ok (.istore_n 3, 1) := by decide +kernel
theorem d_M_energy_4 : decode b_M_energy 4 = .ok (.iload_n 3, 1) := by decide +kernel
theorem d_M_energy_5 : decode b_M_energy 5 = .ok (.bipush 8, 2) := by decide +kernel
theorem d_M_energy_7 : decode b_M_energy 7 = .ok (.if_icmp .ge 90, 3) := by decide +kernel
theorem d_M_energy_10 : decode b_M_energy 10 = .ok (.aload_n 0, 1) := by decide +kernel
theorem d_M_energy_11 : decode b_M_energy 11 = .ok (.getfield 146, 3) := by decide +kernel
theorem d_M_energy_14 : decode b_M_energy 14 = .ok (.iload_n 3, 1) := by decide +kernel
theorem d_M_energy_15 : decode b_M_energy 15 = .ok (.laload, 1) := by decide +kernel
theorem d_M_energy_16 : decode b_M_energy 16 = .ok (.invokestatic 229, 3) := by decide +kernel
theorem d_M_energy_19 : decode b_M_energy 19 = .ok (.lstore 4, 2) := by decide +kernel
theorem d_M_energy_21 : decode b_M_energy 21 = .ok (.lload_n 1, 1) := by decide +kernel
theorem d_M_energy_22 : decode b_M_energy 22 = .ok (.ldc2_w 282, 3) := by decide +kernel
theorem d_M_energy_25 : decode b_M_energy 25 = .ok (.lload 4, 2) := by decide +kernel
theorem d_M_energy_27 : decode b_M_energy 27 = .ok (.invokestatic 216, 3) := by decide +kernel
theorem d_M_energy_30 : decode b_M_energy 30 = .ok (.aload_n 0, 1) := by decide +kernel
theorem d_M_energy_31 : decode b_M_energy 31 = .ok (.getfield 140, 3) := by decide +kernel
theorem d_M_energy_34 : decode b_M_energy 34 = .ok (.iload_n 3, 1) := by decide +kernel
theorem d_M_energy_35 : decode b_M_energy 35 = .ok (.laload, 1) := by decide +kernel
theorem d_M_energy_36 : decode b_M_energy 36 = .ok (.aload_n 0, 1) := by decide +kernel
theorem d_M_energy_37 : decode b_M_energy 37 = .ok (.getfield 143, 3) := by decide +kernel
theorem d_M_energy_40 : decode b_M_energy 40 = .ok (.iload_n 3, 1) := by decide +kernel
theorem d_M_energy_41 : decode b_M_energy 41 = .ok (.laload, 1) := by decide +kernel
theorem d_M_energy_42 : decode b_M_energy 42 = .ok (.invokestatic 220, 3) := by decide +kernel
theorem d_M_energy_45 : decode b_M_energy 45 = .ok (.invokestatic 216, 3) := by decide +kernel
theorem d_M_energy_48 : decode b_M_energy 48 = .ok (.invokestatic 123, 3) := by decide +kernel
theorem d_M_energy_51 : decode b_M_energy 51 = .ok (.lstore_n 1, 1) := by decide +kernel
theorem d_M_energy_52 : decode b_M_energy 52 = .ok (.lload_n 1, 1) := by decide +kernel
theorem d_M_energy_53 : decode b_M_energy 53 = .ok (.lload 4, 2) := by decide +kernel
theorem d_M_energy_55 : decode b_M_energy 55 = .ok (.aload_n 0, 1) := by decide +kernel
theorem d_M_energy_56 : decode b_M_energy 56 = .ok (.getfield 198, 3) := by decide +kernel
theorem d_M_energy_59 : decode b_M_energy 59 = .ok (.aload_n 0, 1) := by decide +kernel
theorem d_M_energy_60 : decode b_M_energy 60 = .ok (.getfield 133, 3) := by decide +kernel
theorem d_M_energy_63 : decode b_M_energy 63 = .ok (.iload_n 3, 1) := by decide +kernel
theorem d_M_energy_64 : decode b_M_energy 64 = .ok (.laload, 1) := by decide +kernel
theorem d_M_energy_65 : decode b_M_energy 65 = .ok (.invokestatic 216, 3) := by decide +kernel
theorem d_M_energy_68 : decode b_M_energy 68 = .ok (.aload_n 0, 1) := by decide +kernel
theorem d_M_energy_69 : decode b_M_energy 69 = .ok (.getfield 201, 3) := by decide +kernel
theorem d_M_energy_72 : decode b_M_energy 72 = .ok (.aload_n 0, 1) := by decide +kernel
theorem d_M_energy_73 : decode b_M_energy 73 = .ok (.getfield 137, 3) := by decide +kernel
theorem d_M_energy_76 : decode b_M_energy 76 = .ok (.iload_n 3, 1) := by decide +kernel
theorem d_M_energy_77 : decode b_M_energy 77 = .ok (.laload, 1) := by decide +kernel
theorem d_M_energy_78 : decode b_M_energy 78 = .ok (.invokestatic 216, 3) := by decide +kernel
theorem d_M_energy_81 : decode b_M_energy 81 = .ok (.invokestatic 123, 3) := by decide +kernel
theorem d_M_energy_84 : decode b_M_energy 84 = .ok (.invokestatic 216, 3) := by decide +kernel
theorem d_M_energy_87 : decode b_M_energy 87 = .ok (.invokestatic 218, 3) := by decide +kernel
theorem d_M_energy_90 : decode b_M_energy 90 = .ok (.lstore_n 1, 1) := by decide +kernel
theorem d_M_energy_91 : decode b_M_energy 91 = .ok (.iinc 3 1, 3) := by decide +kernel
theorem d_M_energy_94 : decode b_M_energy 94 = .ok (.goto (-90), 3) := by decide +kernel
theorem d_M_energy_97 : decode b_M_energy 97 = .ok (.iconst 0, 1) := by decide +kernel
theorem d_M_energy_98 : decode b_M_energy 98 = .ok (.istore_n 3, 1) := by decide +kernel
theorem d_M_energy_99 : decode b_M_energy 99 = .ok (.iload_n 3, 1) := by decide +kernel
theorem d_M_energy_100 : decode b_M_energy 100 = .ok (.aload_n 0, 1) := by decide +kernel
theorem d_M_energy_101 : decode b_M_energy 101 = .ok (.getfield 209, 3) := by decide +kernel
theorem d_M_energy_104 : decode b_M_energy 104 = .ok (.if_icmp .ge 58, 3) := by decide +kernel
theorem d_M_energy_107 : decode b_M_energy 107 = .ok (.aload_n 0, 1) := by decide +kernel
theorem d_M_energy_108 : decode b_M_energy 108 = .ok (.iload_n 3, 1) := by decide +kernel
theorem d_M_energy_109 : decode b_M_energy 109 = .ok (.invokevirtual 226, 3) := by decide +kernel
theorem d_M_energy_112 : decode b_M_energy 112 = .ok (.aload_n 0, 1) := by decide +kernel
theorem d_M_energy_113 : decode b_M_energy 113 = .ok (.getfield 181, 3) := by decide +kernel
theorem d_M_energy_116 : decode b_M_energy 116 = .ok (.iload_n 3, 1) := by decide +kernel
theorem d_M_energy_117 : decode b_M_energy 117 = .ok (.laload, 1) := by decide +kernel
theorem d_M_energy_118 : decode b_M_energy 118 = .ok (.invokestatic 229, 3) := by decide +kernel
theorem d_M_energy_121 : decode b_M_energy 121 = .ok (.invokestatic 218, 3) := by decide +kernel
theorem d_M_energy_124 : decode b_M_energy 124 = .ok (.lstore 4, 2) := by decide +kernel
theorem d_M_energy_126 : decode b_M_energy 126 = .ok (.lload_n 1, 1) := by decide +kernel
theorem d_M_energy_127 : decode b_M_energy 127 = .ok (.ldc2_w 282, 3) := by decide +kernel
theorem d_M_energy_130 : decode b_M_energy 130 = .ok (.aload_n 0, 1) := by decide +kernel
theorem d_M_energy_131 : decode b_M_energy 131 = .ok (.getfield 178, 3) := by decide +kernel
theorem d_M_energy_134 : decode b_M_energy 134 = .ok (.iload_n 3, 1) := by decide +kernel
theorem d_M_energy_135 : decode b_M_energy 135 = .ok (.laload, 1) := by decide +kernel
theorem d_M_energy_136 : decode b_M_energy 136 = .ok (.invokestatic 229, 3) := by decide +kernel
theorem d_M_energy_139 : decode b_M_energy 139 = .ok (.invokestatic 216, 3) := by decide +kernel
theorem d_M_energy_142 : decode b_M_energy 142 = .ok (.lload 4, 2) := by decide +kernel
theorem d_M_energy_144 : decode b_M_energy 144 = .ok (.invokestatic 216, 3) := by decide +kernel
theorem d_M_energy_147 : decode b_M_energy 147 = .ok (.lload 4, 2) := by decide +kernel
theorem d_M_energy_149 : decode b_M_energy 149 = .ok (.invokestatic 216, 3) := by decide +kernel
theorem d_M_energy_152 : decode b_M_energy 152 = .ok (.invokestatic 123, 3) := by decide +kernel
theorem d_M_energy_155 : decode b_M_energy 155 = .ok (.lstore_n 1, 1) := by decide +kernel
theorem d_M_energy_156 : decode b_M_energy 156 = .ok (.iinc 3 1, 3) := by decide +kernel
theorem d_M_energy_159 : decode b_M_energy 159 = .ok (.goto (-60), 3) := by decide +kernel
theorem d_M_energy_162 : decode b_M_energy 162 = .ok (.lload_n 1, 1) := by decide +kernel
theorem d_M_energy_163 : decode b_M_energy 163 = .ok (.invokestatic 251, 3) := by decide +kernel
theorem d_M_energy_166 : decode b_M_energy 166 = .ok (.lreturn, 1) := by decide +kernel
def f_M_energy_99 : Nat → MS → Int64 → Int32 → Int64
  | 0, S, _, _ => 0
  | n + 1, S, x1, x3 =>
    if (m_springs S) ≤ x3 then
      f_M_told_J x1
    else
      let v2 : Int64 := f_M_subtract_JJ (f_M_distance_I S x3) (f_M_toDouble_J (m_l S x3.toNatClampNeg))
      let v3 : Int64 := f_M_add_JJ x1 (f_M_multiply_JJ (f_M_multiply_JJ (f_M_multiply_JJ (4602678819172646912 : Int64) (f_M_toDouble_J (m_k S x3.toNatClampNeg))) v2) v2)
      let v4 : Int32 := x3 + 1
      f_M_energy_99 n S v3 v4
set_option maxHeartbeats 2000000 in
set_option maxRecDepth 100000 in
theorem k_M_energy_99 {p : Program} {l : Launch} {e : Env} {s : State} {m : MethodId} {args : Array Value} {below : List Frame} {meth : Method} {c : Code} {A : Nat → Prop} {dC : Nat → ClassId} {dI : Nat → Nat → Nat} {ad : Nat → Nat} {cJ cI : ClassId} {W0 : va_W} {sz : Nat} (C0 : pu_C p s m args meth c b_M_energy 6 "MotionLabModel" (some .long) (gw y_M_energy b_M_energy 6 (some .long))) {t0 t1 t2 : Nat} (hRT : RTA t0 t1 t2 A s s.heap) (hK : va_K (dC, dI) classes (tysJI cJ cI) s) (hAe : va_A W0 sz = A) (hA : ∀ q : Nat, s.heap.size ≤ q → A q) (n : Nat) : ∀ (S : MS) (x1 : Int64) (x3 : Int32) (hOK : mOK S) (hinv : ∃ j : Nat, x3 = nI j ∧ j ≤ (m_springs S).toNatClampNeg ∧ (m_springs S).toNatClampNeg - j < n) (H : Heap) (locs : List Loc) (G : hG (dC, dI) classes A s.heap (mW ad cJ cI S) H locs) (ls : Array Slot) (hl : lv_has ls 6 [(0, .ref (ad 0)), (1, .long x1), (3, .int x3)]) {w : Int64} (hw : w = f_M_energy_99 n S x1 x3), W p l e (headSpec (gw y_M_energy b_M_energy 6 (some .long)) ({ frames := 8, cells := 0, slots := 0, locals := 212 } : Room)).room s m args below meth c H locs 0 0 (MQ below (hQl (dC, dI) classes (tysJI cJ cI) W0 sz w (mW ad cJ cI S)) args s 0 0 A) (F0 m 99 ls []) := by
  obtain ⟨hx, hb, hml, hown, hts, hr, hlocks⟩ := id C0
  induction n with
  | zero => intro S x1 x3 hOK hinv H locs G ls hl w hw; exact (fl_zero hinv).elim
  | succ n ih =>
    intro S x1 x3 hOK hinv H locs G ls hl w hw
    refine lv_iload_n hx hb d_M_energy_99 rfl (lv_at hl 2 rfl) ?_
    refine lv_aload_n hx hb d_M_energy_100 rfl (lv_at hl 0 rfl) ?_
    refine va_get (D := (dC, dI)) (ci := 3) (v := .int (m_springs S)) (C := R_M) (T := F_M) (N := 21) hx hb hts (fun w h => gm (i_M w h)) hown hK G.1 0 rfl rfl 19 (by decide) (hts _ (gm tw_440)) (fun _ h9 => h9) rfl d_M_energy_101 ?_
    refine lv_icmp_ge (tgt := 162) hx hb d_M_energy_104 (by decide) (fun c1 => ?_) (fun c1 => ?_)
    · refine lv_lload_n hx hb d_M_energy_162 rfl (lv_at hl 1 rfl) ?_
      refine pu_l (As := [.long x1]) (rest := []) ⟨hx, hb, hml, hown, hts⟩ (c_M_told_J l _ x1) pu_pre (gw_call (k := 1) hts tw_647 tw_648 tw_4 tw_649 (by decide +kernel) rfl rfl ⟨Nat.le_of_ble_eq_true rfl, Nat.le_of_ble_eq_true rfl⟩) rfl hl.1 rfl (Nat.le_of_ble_eq_true rfl) ⟨Nat.zero_le _, Nat.zero_le _⟩ d_M_energy_163 ?_
      exact hg_lret hx hb hr hlocks hK hAe G (by have e9 : w = f_M_told_J x1 := (by exact hw.trans (if_pos c1)); exact ⟨Eq.symm e9, rfl⟩) d_M_energy_166
    · refine lv_aload_n hx hb d_M_energy_107 rfl (lv_at hl 0 rfl) ?_
      refine lv_iload_n hx hb d_M_energy_108 rfl (lv_at hl 2 rfl) ?_
      refine hg_cl (As := [.int x3]) (rest := []) ⟨hx, hb, hml, hown, hts⟩ (c_M_distance_I l dC dI ad cJ cI t0 t1 t2 S x3 (mOK_at hOK hinv c1).1 (mOK_at hOK hinv c1).2.1 (mOK_at hOK hinv c1).2.2 _) (gw_callV (k := 1) hts tw_604 tw_606 tp_11 tw_4 tw_607 (by decide +kernel) rfl rfl ⟨Nat.le_of_ble_eq_true rfl, Nat.le_of_ble_eq_true rfl⟩) hK G hA (hx_M hRT G hA) 3 0 rfl rfl rfl hl.1 rfl (Nat.le_of_ble_eq_true rfl) ⟨Nat.zero_le _, Nat.zero_le _⟩ d_M_energy_109 (fun H locs G => ?_)
      refine lv_aload_n hx hb d_M_energy_112 rfl (lv_at hl 0 rfl) ?_
      refine va_get (D := (dC, dI)) (ci := 3) (v := .ref (ad 12)) (C := R_M) (T := F_M) (N := 21) hx hb hts (fun w h => gm (i_M w h)) hown hK G.1 0 rfl rfl 17 (by decide) (hts _ (gm tw_438)) (fun _ h9 => h9) rfl d_M_energy_113 ?_
      refine lv_iload_n hx hb d_M_energy_116 rfl (lv_at hl 2 rfl) ?_
      refine va_lald hx hb hK G.1 12 0 rfl rfl (mOK_at hOK hinv c1).1 d_M_energy_117 ?_
      refine pu_l (As := [.long (m_l S x3.toNatClampNeg)]) (rest := [.long (f_M_distance_I S x3)]) ⟨hx, hb, hml, hown, hts⟩ (c_M_toDouble_J l _ t0 t1 t2 (m_l S x3.toNatClampNeg)) (pr_pre (hx_R hRT G)) (gw_call (k := 1) hts tw_570 tw_571 tw_4 tw_572 (by decide +kernel) rfl rfl ⟨Nat.le_of_ble_eq_true rfl, Nat.le_of_ble_eq_true rfl⟩) rfl hl.1 rfl (Nat.le_of_ble_eq_true rfl) ⟨Nat.zero_le _, Nat.zero_le _⟩ d_M_energy_118 ?_
      refine pu_l (As := [.long (f_M_distance_I S x3), .long (f_M_toDouble_J (m_l S x3.toNatClampNeg))]) (rest := []) ⟨hx, hb, hml, hown, hts⟩ (c_M_subtract_JJ l _ t0 t1 t2 (f_M_distance_I S x3) (f_M_toDouble_J (m_l S x3.toNatClampNeg))) (pr_pre (hx_R hRT G)) (gw_call (k := 2) hts tw_588 tw_589 tw_4 tw_590 (by decide +kernel) rfl rfl ⟨Nat.le_of_ble_eq_true rfl, Nat.le_of_ble_eq_true rfl⟩) rfl hl.1 rfl (Nat.le_of_ble_eq_true rfl) ⟨Nat.zero_le _, Nat.zero_le _⟩ d_M_energy_121 ?_
      refine lv_topl (fun v2 e2 => ?_)
      refine lv_lstore (lv' := [(4, .long v2), (0, .ref (ad 0)), (1, .long x1), (3, .int x3)]) hx hb d_M_energy_124 hl (by decide) rfl (fun ls hl => ?_)
      refine lv_lload_n hx hb d_M_energy_126 rfl (lv_at hl 2 rfl) ?_
      refine lv_ldc2 (v := (4602678819172646912 : Int64)) hx hb hown (hts _ (gm tw_695)) d_M_energy_127 ?_
      refine lv_aload_n hx hb d_M_energy_130 rfl (lv_at hl 1 rfl) ?_
      refine va_get (D := (dC, dI)) (ci := 3) (v := .ref (ad 11)) (C := R_M) (T := F_M) (N := 21) hx hb hts (fun w h => gm (i_M w h)) hown hK G.1 0 rfl rfl 16 (by decide) (hts _ (gm tw_437)) (fun _ h9 => h9) rfl d_M_energy_131 ?_
      refine lv_iload_n hx hb d_M_energy_134 rfl (lv_at hl 3 rfl) ?_
      refine va_lald hx hb hK G.1 11 0 rfl rfl (mOK_at hOK hinv c1).1 d_M_energy_135 ?_
      refine pu_l (As := [.long (m_k S x3.toNatClampNeg)]) (rest := [.long (4602678819172646912 : Int64), .long x1]) ⟨hx, hb, hml, hown, hts⟩ (c_M_toDouble_J l _ t0 t1 t2 (m_k S x3.toNatClampNeg)) (pr_pre (hx_R hRT G)) (gw_call (k := 1) hts tw_570 tw_571 tw_4 tw_572 (by decide +kernel) rfl rfl ⟨Nat.le_of_ble_eq_true rfl, Nat.le_of_ble_eq_true rfl⟩) rfl hl.1 rfl (Nat.le_of_ble_eq_true rfl) ⟨Nat.zero_le _, Nat.zero_le _⟩ d_M_energy_136 ?_
      refine pu_l (As := [.long (4602678819172646912 : Int64), .long (f_M_toDouble_J (m_k S x3.toNatClampNeg))]) (rest := [.long x1]) ⟨hx, hb, hml, hown, hts⟩ (c_M_multiply_JJ l _ t0 t1 t2 (4602678819172646912 : Int64) (f_M_toDouble_J (m_k S x3.toNatClampNeg))) (pr_pre (hx_R hRT G)) (gw_call (k := 2) hts tw_573 tw_574 tw_4 tw_575 (by decide +kernel) rfl rfl ⟨Nat.le_of_ble_eq_true rfl, Nat.le_of_ble_eq_true rfl⟩) rfl hl.1 rfl (Nat.le_of_ble_eq_true rfl) ⟨Nat.zero_le _, Nat.zero_le _⟩ d_M_energy_139 ?_
      refine lv_lload hx hb d_M_energy_142 (lv_at hl 0 rfl) ?_
      refine pu_l (As := [.long (f_M_multiply_JJ (4602678819172646912 : Int64) (f_M_toDouble_J (m_k S x3.toNatClampNeg))), .long v2]) (rest := [.long x1]) ⟨hx, hb, hml, hown, hts⟩ (c_M_multiply_JJ l _ t0 t1 t2 (f_M_multiply_JJ (4602678819172646912 : Int64) (f_M_toDouble_J (m_k S x3.toNatClampNeg))) v2) (pr_pre (hx_R hRT G)) (gw_call (k := 2) hts tw_573 tw_574 tw_4 tw_575 (by decide +kernel) rfl rfl ⟨Nat.le_of_ble_eq_true rfl, Nat.le_of_ble_eq_true rfl⟩) rfl hl.1 rfl (Nat.le_of_ble_eq_true rfl) ⟨Nat.zero_le _, Nat.zero_le _⟩ d_M_energy_144 ?_
      refine lv_lload hx hb d_M_energy_147 (lv_at hl 0 rfl) ?_
      refine pu_l (As := [.long (f_M_multiply_JJ (f_M_multiply_JJ (4602678819172646912 : Int64) (f_M_toDouble_J (m_k S x3.toNatClampNeg))) v2), .long v2]) (rest := [.long x1]) ⟨hx, hb, hml, hown, hts⟩ (c_M_multiply_JJ l _ t0 t1 t2 (f_M_multiply_JJ (f_M_multiply_JJ (4602678819172646912 : Int64) (f_M_toDouble_J (m_k S x3.toNatClampNeg))) v2) v2) (pr_pre (hx_R hRT G)) (gw_call (k := 2) hts tw_573 tw_574 tw_4 tw_575 (by decide +kernel) rfl rfl ⟨Nat.le_of_ble_eq_true rfl, Nat.le_of_ble_eq_true rfl⟩) rfl hl.1 rfl (Nat.le_of_ble_eq_true rfl) ⟨Nat.zero_le _, Nat.zero_le _⟩ d_M_energy_149 ?_
      refine pu_l (As := [.long x1, .long (f_M_multiply_JJ (f_M_multiply_JJ (f_M_multiply_JJ (4602678819172646912 : Int64) (f_M_toDouble_J (m_k S x3.toNatClampNeg))) v2) v2)]) (rest := []) ⟨hx, hb, hml, hown, hts⟩ (c_M_add_JJ l _ t0 t1 t2 x1 (f_M_multiply_JJ (f_M_multiply_JJ (f_M_multiply_JJ (4602678819172646912 : Int64) (f_M_toDouble_J (m_k S x3.toNatClampNeg))) v2) v2)) (pr_pre (hx_R hRT G)) (gw_call (k := 2) hts tw_611 tw_612 tw_4 tw_613 (by decide +kernel) rfl rfl ⟨Nat.le_of_ble_eq_true rfl, Nat.le_of_ble_eq_true rfl⟩) rfl hl.1 rfl (Nat.le_of_ble_eq_true rfl) ⟨Nat.zero_le _, Nat.zero_le _⟩ d_M_energy_152 ?_
      refine lv_topl (fun v3 e3 => ?_)
      refine lv_lstore_n (lv' := [(1, .long v3), (4, .long v2), (0, .ref (ad 0)), (3, .int x3)]) hx hb d_M_energy_155 rfl hl (by decide) rfl (fun ls hl => ?_)
      obtain ⟨v4, e4⟩ : ∃ y : Int32, y = x3 + 1 := ⟨_, rfl⟩
      refine lv_iinc (v := v4) (lv' := [(3, .int v4), (1, .long v3), (4, .long v2), (0, .ref (ad 0))]) hx hb d_M_energy_156 hl (k := 3) rfl (by rw [e4]; rfl) (by decide) rfl (fun ls hl => ?_)
      refine lv_goto (tgt := 99) hx hb d_M_energy_159 (by decide) ?_
      exact ih S v3 v4 hOK (by rw [e4]; exact fl_up hinv c1) _ _ G ls (lv_sub hl [3, 1, 0] rfl) (by have qe2 := e2.symm; have qe3 := e3.symm; have qe4 := e4.symm; subst qe2 qe3 qe4; rw [hw, f_M_energy_99, if_neg c1])
def f_M_energy (S : MS) : Int64 :=
  let v1 : Int64 := f_M_toDouble_J (m_m S (0 : Int32).toNatClampNeg)
  let v2 : Int64 := f_M_add_JJ (0 : Int64) (f_M_multiply_JJ (f_M_multiply_JJ (4602678819172646912 : Int64) v1) (f_M_square_JJ (m_u S (0 : Int32).toNatClampNeg) (m_v S (0 : Int32).toNatClampNeg)))
  let v3 : Int64 := f_M_subtract_JJ v2 (f_M_multiply_JJ v1 (f_M_add_JJ (f_M_multiply_JJ (m_gx S) (m_x S (0 : Int32).toNatClampNeg)) (f_M_multiply_JJ (m_gy S) (m_y S (0 : Int32).toNatClampNeg))))
  let v4 : Int64 := f_M_toDouble_J (m_m S (1 : Int32).toNatClampNeg)
  let v5 : Int64 := f_M_add_JJ v3 (f_M_multiply_JJ (f_M_multiply_JJ (4602678819172646912 : Int64) v4) (f_M_square_JJ (m_u S (1 : Int32).toNatClampNeg) (m_v S (1 : Int32).toNatClampNeg)))
  let v6 : Int64 := f_M_subtract_JJ v5 (f_M_multiply_JJ v4 (f_M_add_JJ (f_M_multiply_JJ (m_gx S) (m_x S (1 : Int32).toNatClampNeg)) (f_M_multiply_JJ (m_gy S) (m_y S (1 : Int32).toNatClampNeg))))
  let v7 : Int64 := f_M_toDouble_J (m_m S (2 : Int32).toNatClampNeg)
  let v8 : Int64 := f_M_add_JJ v6 (f_M_multiply_JJ (f_M_multiply_JJ (4602678819172646912 : Int64) v7) (f_M_square_JJ (m_u S (2 : Int32).toNatClampNeg) (m_v S (2 : Int32).toNatClampNeg)))
  let v9 : Int64 := f_M_subtract_JJ v8 (f_M_multiply_JJ v7 (f_M_add_JJ (f_M_multiply_JJ (m_gx S) (m_x S (2 : Int32).toNatClampNeg)) (f_M_multiply_JJ (m_gy S) (m_y S (2 : Int32).toNatClampNeg))))
  let v10 : Int64 := f_M_toDouble_J (m_m S (3 : Int32).toNatClampNeg)
  let v11 : Int64 := f_M_add_JJ v9 (f_M_multiply_JJ (f_M_multiply_JJ (4602678819172646912 : Int64) v10) (f_M_square_JJ (m_u S (3 : Int32).toNatClampNeg) (m_v S (3 : Int32).toNatClampNeg)))
  let v12 : Int64 := f_M_subtract_JJ v11 (f_M_multiply_JJ v10 (f_M_add_JJ (f_M_multiply_JJ (m_gx S) (m_x S (3 : Int32).toNatClampNeg)) (f_M_multiply_JJ (m_gy S) (m_y S (3 : Int32).toNatClampNeg))))
  let v13 : Int64 := f_M_toDouble_J (m_m S (4 : Int32).toNatClampNeg)
  let v14 : Int64 := f_M_add_JJ v12 (f_M_multiply_JJ (f_M_multiply_JJ (4602678819172646912 : Int64) v13) (f_M_square_JJ (m_u S (4 : Int32).toNatClampNeg) (m_v S (4 : Int32).toNatClampNeg)))
  let v15 : Int64 := f_M_subtract_JJ v14 (f_M_multiply_JJ v13 (f_M_add_JJ (f_M_multiply_JJ (m_gx S) (m_x S (4 : Int32).toNatClampNeg)) (f_M_multiply_JJ (m_gy S) (m_y S (4 : Int32).toNatClampNeg))))
  let v16 : Int64 := f_M_toDouble_J (m_m S (5 : Int32).toNatClampNeg)
  let v17 : Int64 := f_M_add_JJ v15 (f_M_multiply_JJ (f_M_multiply_JJ (4602678819172646912 : Int64) v16) (f_M_square_JJ (m_u S (5 : Int32).toNatClampNeg) (m_v S (5 : Int32).toNatClampNeg)))
  let v18 : Int64 := f_M_subtract_JJ v17 (f_M_multiply_JJ v16 (f_M_add_JJ (f_M_multiply_JJ (m_gx S) (m_x S (5 : Int32).toNatClampNeg)) (f_M_multiply_JJ (m_gy S) (m_y S (5 : Int32).toNatClampNeg))))
  let v19 : Int64 := f_M_toDouble_J (m_m S (6 : Int32).toNatClampNeg)
  let v20 : Int64 := f_M_add_JJ v18 (f_M_multiply_JJ (f_M_multiply_JJ (4602678819172646912 : Int64) v19) (f_M_square_JJ (m_u S (6 : Int32).toNatClampNeg) (m_v S (6 : Int32).toNatClampNeg)))
  let v21 : Int64 := f_M_subtract_JJ v20 (f_M_multiply_JJ v19 (f_M_add_JJ (f_M_multiply_JJ (m_gx S) (m_x S (6 : Int32).toNatClampNeg)) (f_M_multiply_JJ (m_gy S) (m_y S (6 : Int32).toNatClampNeg))))
  let v22 : Int64 := f_M_toDouble_J (m_m S (7 : Int32).toNatClampNeg)
  let v23 : Int64 := f_M_add_JJ v21 (f_M_multiply_JJ (f_M_multiply_JJ (4602678819172646912 : Int64) v22) (f_M_square_JJ (m_u S (7 : Int32).toNatClampNeg) (m_v S (7 : Int32).toNatClampNeg)))
  let v24 : Int64 := f_M_subtract_JJ v23 (f_M_multiply_JJ v22 (f_M_add_JJ (f_M_multiply_JJ (m_gx S) (m_x S (7 : Int32).toNatClampNeg)) (f_M_multiply_JJ (m_gy S) (m_y S (7 : Int32).toNatClampNeg))))
  f_M_energy_99 ((m_springs S).toNatClampNeg + 1) S v24 (0 : Int32)
set_option maxHeartbeats 2000000 in
set_option maxRecDepth 100000 in
theorem c_M_energy (l : Launch) (dC : Nat → ClassId) (dI : Nat → Nat → Nat) (ad : Nat → Nat) (cJ cI : ClassId) (t0 t1 t2 : Nat) (S : MS)  (hOK : mOK S) (sz : Nat) : hMl l y_M_energy (gw y_M_energy b_M_energy 6 (some .long)) { frames := 8, cells := 0, slots := 0, locals := 212 } [.ref (ad 0)] (dC, dI) classes (tysJI cJ cI) (hE_M t0 t1 t2 (mW ad cJ cI S) sz) (mW ad cJ cI S) sz (f_M_energy S) (mW ad cJ cI S) := by
  refine Met.ofW (cc := b_M_energy) (maxL := 6) (ret := (some .long)) (by decide) rfl ?_
  intro p e s m args below meth c s₁ B hml hv
  obtain ⟨rfl, hsz, hP, hK, hD0, hRT⟩ := hv
  have hx := B.exec
  have hb := B.bytes
  have hr := B.returns
  have hts := atoms_spec (ws := (gw y_M_energy b_M_energy 6 (some .long))) B.pre
  have hown : s.vm.findClass "MotionLabModel" = some m.cls := findClass_of_methodNamed B.named
  have hlocks := B.notSynchronized
  have C0 : pu_C p s m _ meth c b_M_energy 6 "MotionLabModel" (some .long) (gw y_M_energy b_M_energy 6 (some .long)) := ⟨hx, hb, hml, hown, hts, hr, hlocks⟩
  subst hsz
  have hD := hD0.self (sz := s.heap.size)
  have hRT : RTA t0 t1 t2 (va_A (mW ad cJ cI S) s.heap.size) s s.heap := hRT
  generalize hAe : va_A (mW ad cJ cI S) s.heap.size = A at hD hRT
  have hA : ∀ q : Nat, s.heap.size ≤ q → A q := fun q h => by rw [← hAe]; exact Or.inr h
  have G : hG (dC, dI) classes A s.heap (mW ad cJ cI S) s.heap [] := ⟨hP, hD, va_S.rf⟩
  have hl := lv_entry ([.ref (ad 0)]) (n := 6) (Nat.le_of_ble_eq_true rfl)
  rw [lg_entry_eq]
  generalize (lg_sl ([.ref (ad 0)]) ++ List.replicate (6 - (lg_sl ([.ref (ad 0)])).length) Slot.unset).toArray = ls at hl ⊢
  have hl : lv_has ls 6 [(0, .ref (ad 0))] := hl
  refine lv_lconst (v := (0 : Int64)) hx hb d_M_energy_0 (by decide) ?_
  refine lv_lstore_n (lv' := [(1, .long (0 : Int64)), (0, .ref (ad 0))]) hx hb d_M_energy_1 rfl hl (by decide) rfl (fun ls hl => ?_)
  refine lv_iconst (v := 0) hx hb d_M_energy_2 (by decide) ?_
  refine lv_istore_n (lv' := [(3, .int (0 : Int32)), (1, .long (0 : Int64)), (0, .ref (ad 0))]) hx hb d_M_energy_3 rfl hl (by decide) rfl (fun ls hl => ?_)
  refine lv_iload_n hx hb d_M_energy_4 rfl (lv_at hl 0 rfl) ?_
  refine lv_bipush (v := (8 : Int32)) hx hb d_M_energy_5 (by decide) ?_
  refine lv_icmp_ge (tgt := 97) hx hb d_M_energy_7 (by decide) (fun c0 => absurd c0 (by decide)) (fun _ => ?_)
  refine lv_aload_n hx hb d_M_energy_10 rfl (lv_at hl 2 rfl) ?_
  refine va_get (D := (dC, dI)) (ci := 3) (v := .ref (ad 5)) (C := R_M) (T := F_M) (N := 21) hx hb hts (fun w h => gm (i_M w h)) hown hK G.1 0 rfl rfl 4 (by decide) (hts _ (gm tw_425)) (fun _ h9 => h9) rfl d_M_energy_11 ?_
  refine lv_iload_n hx hb d_M_energy_14 rfl (lv_at hl 0 rfl) ?_
  refine va_lald hx hb hK G.1 5 0 rfl rfl (in_of (by decide) (by decide)) d_M_energy_15 ?_
  refine pu_l (As := [.long (m_m S (0 : Int32).toNatClampNeg)]) (rest := []) ⟨hx, hb, hml, hown, hts⟩ (c_M_toDouble_J l _ t0 t1 t2 (m_m S (0 : Int32).toNatClampNeg)) (pr_pre (hx_R hRT G)) (gw_call (k := 1) hts tw_570 tw_571 tw_4 tw_572 (by decide +kernel) rfl rfl ⟨Nat.le_of_ble_eq_true rfl, Nat.le_of_ble_eq_true rfl⟩) rfl hl.1 rfl (Nat.le_of_ble_eq_true rfl) ⟨Nat.zero_le _, Nat.zero_le _⟩ d_M_energy_16 ?_
  refine lv_topl (fun v1 e1 => ?_)
  refine lv_lstore (lv' := [(4, .long v1), (3, .int (0 : Int32)), (1, .long (0 : Int64)), (0, .ref (ad 0))]) hx hb d_M_energy_19 hl (by decide) rfl (fun ls hl => ?_)
  refine lv_lload_n hx hb d_M_energy_21 rfl (lv_at hl 2 rfl) ?_
  refine lv_ldc2 (v := (4602678819172646912 : Int64)) hx hb hown (hts _ (gm tw_695)) d_M_energy_22 ?_
  refine lv_lload hx hb d_M_energy_25 (lv_at hl 0 rfl) ?_
  refine pu_l (As := [.long (4602678819172646912 : Int64), .long v1]) (rest := [.long (0 : Int64)]) ⟨hx, hb, hml, hown, hts⟩ (c_M_multiply_JJ l _ t0 t1 t2 (4602678819172646912 : Int64) v1) (pr_pre (hx_R hRT G)) (gw_call (k := 2) hts tw_573 tw_574 tw_4 tw_575 (by decide +kernel) rfl rfl ⟨Nat.le_of_ble_eq_true rfl, Nat.le_of_ble_eq_true rfl⟩) rfl hl.1 rfl (Nat.le_of_ble_eq_true rfl) ⟨Nat.zero_le _, Nat.zero_le _⟩ d_M_energy_27 ?_
  refine lv_aload_n hx hb d_M_energy_30 rfl (lv_at hl 3 rfl) ?_
  refine va_get (D := (dC, dI)) (ci := 3) (v := .ref (ad 3)) (C := R_M) (T := F_M) (N := 21) hx hb hts (fun w h => gm (i_M w h)) hown hK G.1 0 rfl rfl 2 (by decide) (hts _ (gm tw_423)) (fun _ h9 => h9) rfl d_M_energy_31 ?_
  refine lv_iload_n hx hb d_M_energy_34 rfl (lv_at hl 1 rfl) ?_
  refine va_lald hx hb hK G.1 3 0 rfl rfl (in_of (by decide) (by decide)) d_M_energy_35 ?_
  refine lv_aload_n hx hb d_M_energy_36 rfl (lv_at hl 3 rfl) ?_
  refine va_get (D := (dC, dI)) (ci := 3) (v := .ref (ad 4)) (C := R_M) (T := F_M) (N := 21) hx hb hts (fun w h => gm (i_M w h)) hown hK G.1 0 rfl rfl 3 (by decide) (hts _ (gm tw_424)) (fun _ h9 => h9) rfl d_M_energy_37 ?_
  refine lv_iload_n hx hb d_M_energy_40 rfl (lv_at hl 1 rfl) ?_
  refine va_lald hx hb hK G.1 4 0 rfl rfl (in_of (by decide) (by decide)) d_M_energy_41 ?_
  refine pu_l (As := [.long (m_u S (0 : Int32).toNatClampNeg), .long (m_v S (0 : Int32).toNatClampNeg)]) (rest := [.long (f_M_multiply_JJ (4602678819172646912 : Int64) v1), .long (0 : Int64)]) ⟨hx, hb, hml, hown, hts⟩ (c_M_square_JJ l _ t0 t1 t2 (m_u S (0 : Int32).toNatClampNeg) (m_v S (0 : Int32).toNatClampNeg)) (pr_pre (hx_R hRT G)) (gw_call (k := 2) hts tw_608 tw_609 tw_4 tw_610 (by decide +kernel) rfl rfl ⟨Nat.le_of_ble_eq_true rfl, Nat.le_of_ble_eq_true rfl⟩) rfl hl.1 rfl (Nat.le_of_ble_eq_true rfl) ⟨Nat.zero_le _, Nat.zero_le _⟩ d_M_energy_42 ?_
  refine pu_l (As := [.long (f_M_multiply_JJ (4602678819172646912 : Int64) v1), .long (f_M_square_JJ (m_u S (0 : Int32).toNatClampNeg) (m_v S (0 : Int32).toNatClampNeg))]) (rest := [.long (0 : Int64)]) ⟨hx, hb, hml, hown, hts⟩ (c_M_multiply_JJ l _ t0 t1 t2 (f_M_multiply_JJ (4602678819172646912 : Int64) v1) (f_M_square_JJ (m_u S (0 : Int32).toNatClampNeg) (m_v S (0 : Int32).toNatClampNeg))) (pr_pre (hx_R hRT G)) (gw_call (k := 2) hts tw_573 tw_574 tw_4 tw_575 (by decide +kernel) rfl rfl ⟨Nat.le_of_ble_eq_true rfl, Nat.le_of_ble_eq_true rfl⟩) rfl hl.1 rfl (Nat.le_of_ble_eq_true rfl) ⟨Nat.zero_le _, Nat.zero_le _⟩ d_M_energy_45 ?_
  refine pu_l (As := [.long (0 : Int64), .long (f_M_multiply_JJ (f_M_multiply_JJ (4602678819172646912 : Int64) v1) (f_M_square_JJ (m_u S (0 : Int32).toNatClampNeg) (m_v S (0 : Int32).toNatClampNeg)))]) (rest := []) ⟨hx, hb, hml, hown, hts⟩ (c_M_add_JJ l _ t0 t1 t2 (0 : Int64) (f_M_multiply_JJ (f_M_multiply_JJ (4602678819172646912 : Int64) v1) (f_M_square_JJ (m_u S (0 : Int32).toNatClampNeg) (m_v S (0 : Int32).toNatClampNeg)))) (pr_pre (hx_R hRT G)) (gw_call (k := 2) hts tw_611 tw_612 tw_4 tw_613 (by decide +kernel) rfl rfl ⟨Nat.le_of_ble_eq_true rfl, Nat.le_of_ble_eq_true rfl⟩) rfl hl.1 rfl (Nat.le_of_ble_eq_true rfl) ⟨Nat.zero_le _, Nat.zero_le _⟩ d_M_energy_48 ?_
  refine lv_topl (fun v2 e2 => ?_)
  refine lv_lstore_n (lv' := [(1, .long v2), (4, .long v1), (3, .int (0 : Int32)), (0, .ref (ad 0))]) hx hb d_M_energy_51 rfl hl (by decide) rfl (fun ls hl => ?_)
  refine lv_lload_n hx hb d_M_energy_52 rfl (lv_at hl 0 rfl) ?_
  refine lv_lload hx hb d_M_energy_53 (lv_at hl 1 rfl) ?_
  refine lv_aload_n hx hb d_M_energy_55 rfl (lv_at hl 3 rfl) ?_
  refine va_get (D := (dC, dI)) (ci := 3) (v := .long (m_gx S)) (C := R_M) (T := F_M) (N := 21) hx hb hts (fun w h => gm (i_M w h)) hown hK G.1 0 rfl rfl 8 (by decide) (hts _ (gm tw_429)) (fun _ h9 => h9) rfl d_M_energy_56 ?_
  refine lv_aload_n hx hb d_M_energy_59 rfl (lv_at hl 3 rfl) ?_
  refine va_get (D := (dC, dI)) (ci := 3) (v := .ref (ad 1)) (C := R_M) (T := F_M) (N := 21) hx hb hts (fun w h => gm (i_M w h)) hown hK G.1 0 rfl rfl 0 (by decide) (hts _ (gm tw_421)) (fun _ h9 => h9) rfl d_M_energy_60 ?_
  refine lv_iload_n hx hb d_M_energy_63 rfl (lv_at hl 2 rfl) ?_
  refine va_lald hx hb hK G.1 1 0 rfl rfl (in_of (by decide) (by decide)) d_M_energy_64 ?_
  refine pu_l (As := [.long (m_gx S), .long (m_x S (0 : Int32).toNatClampNeg)]) (rest := [.long v1, .long v2]) ⟨hx, hb, hml, hown, hts⟩ (c_M_multiply_JJ l _ t0 t1 t2 (m_gx S) (m_x S (0 : Int32).toNatClampNeg)) (pr_pre (hx_R hRT G)) (gw_call (k := 2) hts tw_573 tw_574 tw_4 tw_575 (by decide +kernel) rfl rfl ⟨Nat.le_of_ble_eq_true rfl, Nat.le_of_ble_eq_true rfl⟩) rfl hl.1 rfl (Nat.le_of_ble_eq_true rfl) ⟨Nat.zero_le _, Nat.zero_le _⟩ d_M_energy_65 ?_
  refine lv_aload_n hx hb d_M_energy_68 rfl (lv_at hl 3 rfl) ?_
  refine va_get (D := (dC, dI)) (ci := 3) (v := .long (m_gy S)) (C := R_M) (T := F_M) (N := 21) hx hb hts (fun w h => gm (i_M w h)) hown hK G.1 0 rfl rfl 9 (by decide) (hts _ (gm tw_430)) (fun _ h9 => h9) rfl d_M_energy_69 ?_
  refine lv_aload_n hx hb d_M_energy_72 rfl (lv_at hl 3 rfl) ?_
  refine va_get (D := (dC, dI)) (ci := 3) (v := .ref (ad 2)) (C := R_M) (T := F_M) (N := 21) hx hb hts (fun w h => gm (i_M w h)) hown hK G.1 0 rfl rfl 1 (by decide) (hts _ (gm tw_422)) (fun _ h9 => h9) rfl d_M_energy_73 ?_
  refine lv_iload_n hx hb d_M_energy_76 rfl (lv_at hl 2 rfl) ?_
  refine va_lald hx hb hK G.1 2 0 rfl rfl (in_of (by decide) (by decide)) d_M_energy_77 ?_
  refine pu_l (As := [.long (m_gy S), .long (m_y S (0 : Int32).toNatClampNeg)]) (rest := [.long (f_M_multiply_JJ (m_gx S) (m_x S (0 : Int32).toNatClampNeg)), .long v1, .long v2]) ⟨hx, hb, hml, hown, hts⟩ (c_M_multiply_JJ l _ t0 t1 t2 (m_gy S) (m_y S (0 : Int32).toNatClampNeg)) (pr_pre (hx_R hRT G)) (gw_call (k := 2) hts tw_573 tw_574 tw_4 tw_575 (by decide +kernel) rfl rfl ⟨Nat.le_of_ble_eq_true rfl, Nat.le_of_ble_eq_true rfl⟩) rfl hl.1 rfl (Nat.le_of_ble_eq_true rfl) ⟨Nat.zero_le _, Nat.zero_le _⟩ d_M_energy_78 ?_
  refine pu_l (As := [.long (f_M_multiply_JJ (m_gx S) (m_x S (0 : Int32).toNatClampNeg)), .long (f_M_multiply_JJ (m_gy S) (m_y S (0 : Int32).toNatClampNeg))]) (rest := [.long v1, .long v2]) ⟨hx, hb, hml, hown, hts⟩ (c_M_add_JJ l _ t0 t1 t2 (f_M_multiply_JJ (m_gx S) (m_x S (0 : Int32).toNatClampNeg)) (f_M_multiply_JJ (m_gy S) (m_y S (0 : Int32).toNatClampNeg))) (pr_pre (hx_R hRT G)) (gw_call (k := 2) hts tw_611 tw_612 tw_4 tw_613 (by decide +kernel) rfl rfl ⟨Nat.le_of_ble_eq_true rfl, Nat.le_of_ble_eq_true rfl⟩) rfl hl.1 rfl (Nat.le_of_ble_eq_true rfl) ⟨Nat.zero_le _, Nat.zero_le _⟩ d_M_energy_81 ?_
  refine pu_l (As := [.long v1, .long (f_M_add_JJ (f_M_multiply_JJ (m_gx S) (m_x S (0 : Int32).toNatClampNeg)) (f_M_multiply_JJ (m_gy S) (m_y S (0 : Int32).toNatClampNeg)))]) (rest := [.long v2]) ⟨hx, hb, hml, hown, hts⟩ (c_M_multiply_JJ l _ t0 t1 t2 v1 (f_M_add_JJ (f_M_multiply_JJ (m_gx S) (m_x S (0 : Int32).toNatClampNeg)) (f_M_multiply_JJ (m_gy S) (m_y S (0 : Int32).toNatClampNeg)))) (pr_pre (hx_R hRT G)) (gw_call (k := 2) hts tw_573 tw_574 tw_4 tw_575 (by decide +kernel) rfl rfl ⟨Nat.le_of_ble_eq_true rfl, Nat.le_of_ble_eq_true rfl⟩) rfl hl.1 rfl (Nat.le_of_ble_eq_true rfl) ⟨Nat.zero_le _, Nat.zero_le _⟩ d_M_energy_84 ?_
  refine pu_l (As := [.long v2, .long (f_M_multiply_JJ v1 (f_M_add_JJ (f_M_multiply_JJ (m_gx S) (m_x S (0 : Int32).toNatClampNeg)) (f_M_multiply_JJ (m_gy S) (m_y S (0 : Int32).toNatClampNeg))))]) (rest := []) ⟨hx, hb, hml, hown, hts⟩ (c_M_subtract_JJ l _ t0 t1 t2 v2 (f_M_multiply_JJ v1 (f_M_add_JJ (f_M_multiply_JJ (m_gx S) (m_x S (0 : Int32).toNatClampNeg)) (f_M_multiply_JJ (m_gy S) (m_y S (0 : Int32).toNatClampNeg))))) (pr_pre (hx_R hRT G)) (gw_call (k := 2) hts tw_588 tw_589 tw_4 tw_590 (by decide +kernel) rfl rfl ⟨Nat.le_of_ble_eq_true rfl, Nat.le_of_ble_eq_true rfl⟩) rfl hl.1 rfl (Nat.le_of_ble_eq_true rfl) ⟨Nat.zero_le _, Nat.zero_le _⟩ d_M_energy_87 ?_
  refine lv_topl (fun v3 e3 => ?_)
  refine lv_lstore_n (lv' := [(1, .long v3), (4, .long v1), (3, .int (0 : Int32)), (0, .ref (ad 0))]) hx hb d_M_energy_90 rfl hl (by decide) rfl (fun ls hl => ?_)
  refine lv_iinc (v := (1 : Int32)) (lv' := [(3, .int (1 : Int32)), (1, .long v3), (4, .long v1), (0, .ref (ad 0))]) hx hb d_M_energy_91 hl (k := 2) rfl (by decide) (by decide) rfl (fun ls hl => ?_)
  refine lv_goto (tgt := 4) hx hb d_M_energy_94 (by decide) ?_
  refine lv_iload_n hx hb d_M_energy_4 rfl (lv_at hl 0 rfl) ?_
  refine lv_bipush (v := (8 : Int32)) hx hb d_M_energy_5 (by decide) ?_
  refine lv_icmp_ge (tgt := 97) hx hb d_M_energy_7 (by decide) (fun c0 => absurd c0 (by decide)) (fun _ => ?_)
  refine lv_aload_n hx hb d_M_energy_10 rfl (lv_at hl 3 rfl) ?_
  refine va_get (D := (dC, dI)) (ci := 3) (v := .ref (ad 5)) (C := R_M) (T := F_M) (N := 21) hx hb hts (fun w h => gm (i_M w h)) hown hK G.1 0 rfl rfl 4 (by decide) (hts _ (gm tw_425)) (fun _ h9 => h9) rfl d_M_energy_11 ?_
  refine lv_iload_n hx hb d_M_energy_14 rfl (lv_at hl 0 rfl) ?_
  refine va_lald hx hb hK G.1 5 0 rfl rfl (in_of (by decide) (by decide)) d_M_energy_15 ?_
  refine pu_l (As := [.long (m_m S (1 : Int32).toNatClampNeg)]) (rest := []) ⟨hx, hb, hml, hown, hts⟩ (c_M_toDouble_J l _ t0 t1 t2 (m_m S (1 : Int32).toNatClampNeg)) (pr_pre (hx_R hRT G)) (gw_call (k := 1) hts tw_570 tw_571 tw_4 tw_572 (by decide +kernel) rfl rfl ⟨Nat.le_of_ble_eq_true rfl, Nat.le_of_ble_eq_true rfl⟩) rfl hl.1 rfl (Nat.le_of_ble_eq_true rfl) ⟨Nat.zero_le _, Nat.zero_le _⟩ d_M_energy_16 ?_
  refine lv_topl (fun v4 e4 => ?_)
  refine lv_lstore (lv' := [(4, .long v4), (3, .int (1 : Int32)), (1, .long v3), (0, .ref (ad 0))]) hx hb d_M_energy_19 hl (by decide) rfl (fun ls hl => ?_)
  refine lv_lload_n hx hb d_M_energy_21 rfl (lv_at hl 2 rfl) ?_
  refine lv_ldc2 (v := (4602678819172646912 : Int64)) hx hb hown (hts _ (gm tw_695)) d_M_energy_22 ?_
  refine lv_lload hx hb d_M_energy_25 (lv_at hl 0 rfl) ?_
  refine pu_l (As := [.long (4602678819172646912 : Int64), .long v4]) (rest := [.long v3]) ⟨hx, hb, hml, hown, hts⟩ (c_M_multiply_JJ l _ t0 t1 t2 (4602678819172646912 : Int64) v4) (pr_pre (hx_R hRT G)) (gw_call (k := 2) hts tw_573 tw_574 tw_4 tw_575 (by decide +kernel) rfl rfl ⟨Nat.le_of_ble_eq_true rfl, Nat.le_of_ble_eq_true rfl⟩) rfl hl.1 rfl (Nat.le_of_ble_eq_true rfl) ⟨Nat.zero_le _, Nat.zero_le _⟩ d_M_energy_27 ?_
  refine lv_aload_n hx hb d_M_energy_30 rfl (lv_at hl 3 rfl) ?_
  refine va_get (D := (dC, dI)) (ci := 3) (v := .ref (ad 3)) (C := R_M) (T := F_M) (N := 21) hx hb hts (fun w h => gm (i_M w h)) hown hK G.1 0 rfl rfl 2 (by decide) (hts _ (gm tw_423)) (fun _ h9 => h9) rfl d_M_energy_31 ?_
  refine lv_iload_n hx hb d_M_energy_34 rfl (lv_at hl 1 rfl) ?_
  refine va_lald hx hb hK G.1 3 0 rfl rfl (in_of (by decide) (by decide)) d_M_energy_35 ?_
  refine lv_aload_n hx hb d_M_energy_36 rfl (lv_at hl 3 rfl) ?_
  refine va_get (D := (dC, dI)) (ci := 3) (v := .ref (ad 4)) (C := R_M) (T := F_M) (N := 21) hx hb hts (fun w h => gm (i_M w h)) hown hK G.1 0 rfl rfl 3 (by decide) (hts _ (gm tw_424)) (fun _ h9 => h9) rfl d_M_energy_37 ?_
  refine lv_iload_n hx hb d_M_energy_40 rfl (lv_at hl 1 rfl) ?_
  refine va_lald hx hb hK G.1 4 0 rfl rfl (in_of (by decide) (by decide)) d_M_energy_41 ?_
  refine pu_l (As := [.long (m_u S (1 : Int32).toNatClampNeg), .long (m_v S (1 : Int32).toNatClampNeg)]) (rest := [.long (f_M_multiply_JJ (4602678819172646912 : Int64) v4), .long v3]) ⟨hx, hb, hml, hown, hts⟩ (c_M_square_JJ l _ t0 t1 t2 (m_u S (1 : Int32).toNatClampNeg) (m_v S (1 : Int32).toNatClampNeg)) (pr_pre (hx_R hRT G)) (gw_call (k := 2) hts tw_608 tw_609 tw_4 tw_610 (by decide +kernel) rfl rfl ⟨Nat.le_of_ble_eq_true rfl, Nat.le_of_ble_eq_true rfl⟩) rfl hl.1 rfl (Nat.le_of_ble_eq_true rfl) ⟨Nat.zero_le _, Nat.zero_le _⟩ d_M_energy_42 ?_
  refine pu_l (As := [.long (f_M_multiply_JJ (4602678819172646912 : Int64) v4), .long (f_M_square_JJ (m_u S (1 : Int32).toNatClampNeg) (m_v S (1 : Int32).toNatClampNeg))]) (rest := [.long v3]) ⟨hx, hb, hml, hown, hts⟩ (c_M_multiply_JJ l _ t0 t1 t2 (f_M_multiply_JJ (4602678819172646912 : Int64) v4) (f_M_square_JJ (m_u S (1 : Int32).toNatClampNeg) (m_v S (1 : Int32).toNatClampNeg))) (pr_pre (hx_R hRT G)) (gw_call (k := 2) hts tw_573 tw_574 tw_4 tw_575 (by decide +kernel) rfl rfl ⟨Nat.le_of_ble_eq_true rfl, Nat.le_of_ble_eq_true rfl⟩) rfl hl.1 rfl (Nat.le_of_ble_eq_true rfl) ⟨Nat.zero_le _, Nat.zero_le _⟩ d_M_energy_45 ?_
  refine pu_l (As := [.long v3, .long (f_M_multiply_JJ (f_M_multiply_JJ (4602678819172646912 : Int64) v4) (f_M_square_JJ (m_u S (1 : Int32).toNatClampNeg) (m_v S (1 : Int32).toNatClampNeg)))]) (rest := []) ⟨hx, hb, hml, hown, hts⟩ (c_M_add_JJ l _ t0 t1 t2 v3 (f_M_multiply_JJ (f_M_multiply_JJ (4602678819172646912 : Int64) v4) (f_M_square_JJ (m_u S (1 : Int32).toNatClampNeg) (m_v S (1 : Int32).toNatClampNeg)))) (pr_pre (hx_R hRT G)) (gw_call (k := 2) hts tw_611 tw_612 tw_4 tw_613 (by decide +kernel) rfl rfl ⟨Nat.le_of_ble_eq_true rfl, Nat.le_of_ble_eq_true rfl⟩) rfl hl.1 rfl (Nat.le_of_ble_eq_true rfl) ⟨Nat.zero_le _, Nat.zero_le _⟩ d_M_energy_48 ?_
  refine lv_topl (fun v5 e5 => ?_)
  refine lv_lstore_n (lv' := [(1, .long v5), (4, .long v4), (3, .int (1 : Int32)), (0, .ref (ad 0))]) hx hb d_M_energy_51 rfl hl (by decide) rfl (fun ls hl => ?_)
  refine lv_lload_n hx hb d_M_energy_52 rfl (lv_at hl 0 rfl) ?_
  refine lv_lload hx hb d_M_energy_53 (lv_at hl 1 rfl) ?_
  refine lv_aload_n hx hb d_M_energy_55 rfl (lv_at hl 3 rfl) ?_
  refine va_get (D := (dC, dI)) (ci := 3) (v := .long (m_gx S)) (C := R_M) (T := F_M) (N := 21) hx hb hts (fun w h => gm (i_M w h)) hown hK G.1 0 rfl rfl 8 (by decide) (hts _ (gm tw_429)) (fun _ h9 => h9) rfl d_M_energy_56 ?_
  refine lv_aload_n hx hb d_M_energy_59 rfl (lv_at hl 3 rfl) ?_
  refine va_get (D := (dC, dI)) (ci := 3) (v := .ref (ad 1)) (C := R_M) (T := F_M) (N := 21) hx hb hts (fun w h => gm (i_M w h)) hown hK G.1 0 rfl rfl 0 (by decide) (hts _ (gm tw_421)) (fun _ h9 => h9) rfl d_M_energy_60 ?_
  refine lv_iload_n hx hb d_M_energy_63 rfl (lv_at hl 2 rfl) ?_
  refine va_lald hx hb hK G.1 1 0 rfl rfl (in_of (by decide) (by decide)) d_M_energy_64 ?_
  refine pu_l (As := [.long (m_gx S), .long (m_x S (1 : Int32).toNatClampNeg)]) (rest := [.long v4, .long v5]) ⟨hx, hb, hml, hown, hts⟩ (c_M_multiply_JJ l _ t0 t1 t2 (m_gx S) (m_x S (1 : Int32).toNatClampNeg)) (pr_pre (hx_R hRT G)) (gw_call (k := 2) hts tw_573 tw_574 tw_4 tw_575 (by decide +kernel) rfl rfl ⟨Nat.le_of_ble_eq_true rfl, Nat.le_of_ble_eq_true rfl⟩) rfl hl.1 rfl (Nat.le_of_ble_eq_true rfl) ⟨Nat.zero_le _, Nat.zero_le _⟩ d_M_energy_65 ?_
  refine lv_aload_n hx hb d_M_energy_68 rfl (lv_at hl 3 rfl) ?_
  refine va_get (D := (dC, dI)) (ci := 3) (v := .long (m_gy S)) (C := R_M) (T := F_M) (N := 21) hx hb hts (fun w h => gm (i_M w h)) hown hK G.1 0 rfl rfl 9 (by decide) (hts _ (gm tw_430)) (fun _ h9 => h9) rfl d_M_energy_69 ?_
  refine lv_aload_n hx hb d_M_energy_72 rfl (lv_at hl 3 rfl) ?_
  refine va_get (D := (dC, dI)) (ci := 3) (v := .ref (ad 2)) (C := R_M) (T := F_M) (N := 21) hx hb hts (fun w h => gm (i_M w h)) hown hK G.1 0 rfl rfl 1 (by decide) (hts _ (gm tw_422)) (fun _ h9 => h9) rfl d_M_energy_73 ?_
  refine lv_iload_n hx hb d_M_energy_76 rfl (lv_at hl 2 rfl) ?_
  refine va_lald hx hb hK G.1 2 0 rfl rfl (in_of (by decide) (by decide)) d_M_energy_77 ?_
  refine pu_l (As := [.long (m_gy S), .long (m_y S (1 : Int32).toNatClampNeg)]) (rest := [.long (f_M_multiply_JJ (m_gx S) (m_x S (1 : Int32).toNatClampNeg)), .long v4, .long v5]) ⟨hx, hb, hml, hown, hts⟩ (c_M_multiply_JJ l _ t0 t1 t2 (m_gy S) (m_y S (1 : Int32).toNatClampNeg)) (pr_pre (hx_R hRT G)) (gw_call (k := 2) hts tw_573 tw_574 tw_4 tw_575 (by decide +kernel) rfl rfl ⟨Nat.le_of_ble_eq_true rfl, Nat.le_of_ble_eq_true rfl⟩) rfl hl.1 rfl (Nat.le_of_ble_eq_true rfl) ⟨Nat.zero_le _, Nat.zero_le _⟩ d_M_energy_78 ?_
  refine pu_l (As := [.long (f_M_multiply_JJ (m_gx S) (m_x S (1 : Int32).toNatClampNeg)), .long (f_M_multiply_JJ (m_gy S) (m_y S (1 : Int32).toNatClampNeg))]) (rest := [.long v4, .long v5]) ⟨hx, hb, hml, hown, hts⟩ (c_M_add_JJ l _ t0 t1 t2 (f_M_multiply_JJ (m_gx S) (m_x S (1 : Int32).toNatClampNeg)) (f_M_multiply_JJ (m_gy S) (m_y S (1 : Int32).toNatClampNeg))) (pr_pre (hx_R hRT G)) (gw_call (k := 2) hts tw_611 tw_612 tw_4 tw_613 (by decide +kernel) rfl rfl ⟨Nat.le_of_ble_eq_true rfl, Nat.le_of_ble_eq_true rfl⟩) rfl hl.1 rfl (Nat.le_of_ble_eq_true rfl) ⟨Nat.zero_le _, Nat.zero_le _⟩ d_M_energy_81 ?_
  refine pu_l (As := [.long v4, .long (f_M_add_JJ (f_M_multiply_JJ (m_gx S) (m_x S (1 : Int32).toNatClampNeg)) (f_M_multiply_JJ (m_gy S) (m_y S (1 : Int32).toNatClampNeg)))]) (rest := [.long v5]) ⟨hx, hb, hml, hown, hts⟩ (c_M_multiply_JJ l _ t0 t1 t2 v4 (f_M_add_JJ (f_M_multiply_JJ (m_gx S) (m_x S (1 : Int32).toNatClampNeg)) (f_M_multiply_JJ (m_gy S) (m_y S (1 : Int32).toNatClampNeg)))) (pr_pre (hx_R hRT G)) (gw_call (k := 2) hts tw_573 tw_574 tw_4 tw_575 (by decide +kernel) rfl rfl ⟨Nat.le_of_ble_eq_true rfl, Nat.le_of_ble_eq_true rfl⟩) rfl hl.1 rfl (Nat.le_of_ble_eq_true rfl) ⟨Nat.zero_le _, Nat.zero_le _⟩ d_M_energy_84 ?_
  refine pu_l (As := [.long v5, .long (f_M_multiply_JJ v4 (f_M_add_JJ (f_M_multiply_JJ (m_gx S) (m_x S (1 : Int32).toNatClampNeg)) (f_M_multiply_JJ (m_gy S) (m_y S (1 : Int32).toNatClampNeg))))]) (rest := []) ⟨hx, hb, hml, hown, hts⟩ (c_M_subtract_JJ l _ t0 t1 t2 v5 (f_M_multiply_JJ v4 (f_M_add_JJ (f_M_multiply_JJ (m_gx S) (m_x S (1 : Int32).toNatClampNeg)) (f_M_multiply_JJ (m_gy S) (m_y S (1 : Int32).toNatClampNeg))))) (pr_pre (hx_R hRT G)) (gw_call (k := 2) hts tw_588 tw_589 tw_4 tw_590 (by decide +kernel) rfl rfl ⟨Nat.le_of_ble_eq_true rfl, Nat.le_of_ble_eq_true rfl⟩) rfl hl.1 rfl (Nat.le_of_ble_eq_true rfl) ⟨Nat.zero_le _, Nat.zero_le _⟩ d_M_energy_87 ?_
  refine lv_topl (fun v6 e6 => ?_)
  refine lv_lstore_n (lv' := [(1, .long v6), (4, .long v4), (3, .int (1 : Int32)), (0, .ref (ad 0))]) hx hb d_M_energy_90 rfl hl (by decide) rfl (fun ls hl => ?_)
  refine lv_iinc (v := (2 : Int32)) (lv' := [(3, .int (2 : Int32)), (1, .long v6), (4, .long v4), (0, .ref (ad 0))]) hx hb d_M_energy_91 hl (k := 2) rfl (by decide) (by decide) rfl (fun ls hl => ?_)
  refine lv_goto (tgt := 4) hx hb d_M_energy_94 (by decide) ?_
  refine lv_iload_n hx hb d_M_energy_4 rfl (lv_at hl 0 rfl) ?_
  refine lv_bipush (v := (8 : Int32)) hx hb d_M_energy_5 (by decide) ?_
  refine lv_icmp_ge (tgt := 97) hx hb d_M_energy_7 (by decide) (fun c0 => absurd c0 (by decide)) (fun _ => ?_)
  refine lv_aload_n hx hb d_M_energy_10 rfl (lv_at hl 3 rfl) ?_
  refine va_get (D := (dC, dI)) (ci := 3) (v := .ref (ad 5)) (C := R_M) (T := F_M) (N := 21) hx hb hts (fun w h => gm (i_M w h)) hown hK G.1 0 rfl rfl 4 (by decide) (hts _ (gm tw_425)) (fun _ h9 => h9) rfl d_M_energy_11 ?_
  refine lv_iload_n hx hb d_M_energy_14 rfl (lv_at hl 0 rfl) ?_
  refine va_lald hx hb hK G.1 5 0 rfl rfl (in_of (by decide) (by decide)) d_M_energy_15 ?_
  refine pu_l (As := [.long (m_m S (2 : Int32).toNatClampNeg)]) (rest := []) ⟨hx, hb, hml, hown, hts⟩ (c_M_toDouble_J l _ t0 t1 t2 (m_m S (2 : Int32).toNatClampNeg)) (pr_pre (hx_R hRT G)) (gw_call (k := 1) hts tw_570 tw_571 tw_4 tw_572 (by decide +kernel) rfl rfl ⟨Nat.le_of_ble_eq_true rfl, Nat.le_of_ble_eq_true rfl⟩) rfl hl.1 rfl (Nat.le_of_ble_eq_true rfl) ⟨Nat.zero_le _, Nat.zero_le _⟩ d_M_energy_16 ?_
  refine lv_topl (fun v7 e7 => ?_)
  refine lv_lstore (lv' := [(4, .long v7), (3, .int (2 : Int32)), (1, .long v6), (0, .ref (ad 0))]) hx hb d_M_energy_19 hl (by decide) rfl (fun ls hl => ?_)
  refine lv_lload_n hx hb d_M_energy_21 rfl (lv_at hl 2 rfl) ?_
  refine lv_ldc2 (v := (4602678819172646912 : Int64)) hx hb hown (hts _ (gm tw_695)) d_M_energy_22 ?_
  refine lv_lload hx hb d_M_energy_25 (lv_at hl 0 rfl) ?_
  refine pu_l (As := [.long (4602678819172646912 : Int64), .long v7]) (rest := [.long v6]) ⟨hx, hb, hml, hown, hts⟩ (c_M_multiply_JJ l _ t0 t1 t2 (4602678819172646912 : Int64) v7) (pr_pre (hx_R hRT G)) (gw_call (k := 2) hts tw_573 tw_574 tw_4 tw_575 (by decide +kernel) rfl rfl ⟨Nat.le_of_ble_eq_true rfl, Nat.le_of_ble_eq_true rfl⟩) rfl hl.1 rfl (Nat.le_of_ble_eq_true rfl) ⟨Nat.zero_le _, Nat.zero_le _⟩ d_M_energy_27 ?_
  refine lv_aload_n hx hb d_M_energy_30 rfl (lv_at hl 3 rfl) ?_
  refine va_get (D := (dC, dI)) (ci := 3) (v := .ref (ad 3)) (C := R_M) (T := F_M) (N := 21) hx hb hts (fun w h => gm (i_M w h)) hown hK G.1 0 rfl rfl 2 (by decide) (hts _ (gm tw_423)) (fun _ h9 => h9) rfl d_M_energy_31 ?_
  refine lv_iload_n hx hb d_M_energy_34 rfl (lv_at hl 1 rfl) ?_
  refine va_lald hx hb hK G.1 3 0 rfl rfl (in_of (by decide) (by decide)) d_M_energy_35 ?_
  refine lv_aload_n hx hb d_M_energy_36 rfl (lv_at hl 3 rfl) ?_
  refine va_get (D := (dC, dI)) (ci := 3) (v := .ref (ad 4)) (C := R_M) (T := F_M) (N := 21) hx hb hts (fun w h => gm (i_M w h)) hown hK G.1 0 rfl rfl 3 (by decide) (hts _ (gm tw_424)) (fun _ h9 => h9) rfl d_M_energy_37 ?_
  refine lv_iload_n hx hb d_M_energy_40 rfl (lv_at hl 1 rfl) ?_
  refine va_lald hx hb hK G.1 4 0 rfl rfl (in_of (by decide) (by decide)) d_M_energy_41 ?_
  refine pu_l (As := [.long (m_u S (2 : Int32).toNatClampNeg), .long (m_v S (2 : Int32).toNatClampNeg)]) (rest := [.long (f_M_multiply_JJ (4602678819172646912 : Int64) v7), .long v6]) ⟨hx, hb, hml, hown, hts⟩ (c_M_square_JJ l _ t0 t1 t2 (m_u S (2 : Int32).toNatClampNeg) (m_v S (2 : Int32).toNatClampNeg)) (pr_pre (hx_R hRT G)) (gw_call (k := 2) hts tw_608 tw_609 tw_4 tw_610 (by decide +kernel) rfl rfl ⟨Nat.le_of_ble_eq_true rfl, Nat.le_of_ble_eq_true rfl⟩) rfl hl.1 rfl (Nat.le_of_ble_eq_true rfl) ⟨Nat.zero_le _, Nat.zero_le _⟩ d_M_energy_42 ?_
  refine pu_l (As := [.long (f_M_multiply_JJ (4602678819172646912 : Int64) v7), .long (f_M_square_JJ (m_u S (2 : Int32).toNatClampNeg) (m_v S (2 : Int32).toNatClampNeg))]) (rest := [.long v6]) ⟨hx, hb, hml, hown, hts⟩ (c_M_multiply_JJ l _ t0 t1 t2 (f_M_multiply_JJ (4602678819172646912 : Int64) v7) (f_M_square_JJ (m_u S (2 : Int32).toNatClampNeg) (m_v S (2 : Int32).toNatClampNeg))) (pr_pre (hx_R hRT G)) (gw_call (k := 2) hts tw_573 tw_574 tw_4 tw_575 (by decide +kernel) rfl rfl ⟨Nat.le_of_ble_eq_true rfl, Nat.le_of_ble_eq_true rfl⟩) rfl hl.1 rfl (Nat.le_of_ble_eq_true rfl) ⟨Nat.zero_le _, Nat.zero_le _⟩ d_M_energy_45 ?_
  refine pu_l (As := [.long v6, .long (f_M_multiply_JJ (f_M_multiply_JJ (4602678819172646912 : Int64) v7) (f_M_square_JJ (m_u S (2 : Int32).toNatClampNeg) (m_v S (2 : Int32).toNatClampNeg)))]) (rest := []) ⟨hx, hb, hml, hown, hts⟩ (c_M_add_JJ l _ t0 t1 t2 v6 (f_M_multiply_JJ (f_M_multiply_JJ (4602678819172646912 : Int64) v7) (f_M_square_JJ (m_u S (2 : Int32).toNatClampNeg) (m_v S (2 : Int32).toNatClampNeg)))) (pr_pre (hx_R hRT G)) (gw_call (k := 2) hts tw_611 tw_612 tw_4 tw_613 (by decide +kernel) rfl rfl ⟨Nat.le_of_ble_eq_true rfl, Nat.le_of_ble_eq_true rfl⟩) rfl hl.1 rfl (Nat.le_of_ble_eq_true rfl) ⟨Nat.zero_le _, Nat.zero_le _⟩ d_M_energy_48 ?_
  refine lv_topl (fun v8 e8 => ?_)
  refine lv_lstore_n (lv' := [(1, .long v8), (4, .long v7), (3, .int (2 : Int32)), (0, .ref (ad 0))]) hx hb d_M_energy_51 rfl hl (by decide) rfl (fun ls hl => ?_)
  refine lv_lload_n hx hb d_M_energy_52 rfl (lv_at hl 0 rfl) ?_
  refine lv_lload hx hb d_M_energy_53 (lv_at hl 1 rfl) ?_
  refine lv_aload_n hx hb d_M_energy_55 rfl (lv_at hl 3 rfl) ?_
  refine va_get (D := (dC, dI)) (ci := 3) (v := .long (m_gx S)) (C := R_M) (T := F_M) (N := 21) hx hb hts (fun w h => gm (i_M w h)) hown hK G.1 0 rfl rfl 8 (by decide) (hts _ (gm tw_429)) (fun _ h9 => h9) rfl d_M_energy_56 ?_
  refine lv_aload_n hx hb d_M_energy_59 rfl (lv_at hl 3 rfl) ?_
  refine va_get (D := (dC, dI)) (ci := 3) (v := .ref (ad 1)) (C := R_M) (T := F_M) (N := 21) hx hb hts (fun w h => gm (i_M w h)) hown hK G.1 0 rfl rfl 0 (by decide) (hts _ (gm tw_421)) (fun _ h9 => h9) rfl d_M_energy_60 ?_
  refine lv_iload_n hx hb d_M_energy_63 rfl (lv_at hl 2 rfl) ?_
  refine va_lald hx hb hK G.1 1 0 rfl rfl (in_of (by decide) (by decide)) d_M_energy_64 ?_
  refine pu_l (As := [.long (m_gx S), .long (m_x S (2 : Int32).toNatClampNeg)]) (rest := [.long v7, .long v8]) ⟨hx, hb, hml, hown, hts⟩ (c_M_multiply_JJ l _ t0 t1 t2 (m_gx S) (m_x S (2 : Int32).toNatClampNeg)) (pr_pre (hx_R hRT G)) (gw_call (k := 2) hts tw_573 tw_574 tw_4 tw_575 (by decide +kernel) rfl rfl ⟨Nat.le_of_ble_eq_true rfl, Nat.le_of_ble_eq_true rfl⟩) rfl hl.1 rfl (Nat.le_of_ble_eq_true rfl) ⟨Nat.zero_le _, Nat.zero_le _⟩ d_M_energy_65 ?_
  refine lv_aload_n hx hb d_M_energy_68 rfl (lv_at hl 3 rfl) ?_
  refine va_get (D := (dC, dI)) (ci := 3) (v := .long (m_gy S)) (C := R_M) (T := F_M) (N := 21) hx hb hts (fun w h => gm (i_M w h)) hown hK G.1 0 rfl rfl 9 (by decide) (hts _ (gm tw_430)) (fun _ h9 => h9) rfl d_M_energy_69 ?_
  refine lv_aload_n hx hb d_M_energy_72 rfl (lv_at hl 3 rfl) ?_
  refine va_get (D := (dC, dI)) (ci := 3) (v := .ref (ad 2)) (C := R_M) (T := F_M) (N := 21) hx hb hts (fun w h => gm (i_M w h)) hown hK G.1 0 rfl rfl 1 (by decide) (hts _ (gm tw_422)) (fun _ h9 => h9) rfl d_M_energy_73 ?_
  refine lv_iload_n hx hb d_M_energy_76 rfl (lv_at hl 2 rfl) ?_
  refine va_lald hx hb hK G.1 2 0 rfl rfl (in_of (by decide) (by decide)) d_M_energy_77 ?_
  refine pu_l (As := [.long (m_gy S), .long (m_y S (2 : Int32).toNatClampNeg)]) (rest := [.long (f_M_multiply_JJ (m_gx S) (m_x S (2 : Int32).toNatClampNeg)), .long v7, .long v8]) ⟨hx, hb, hml, hown, hts⟩ (c_M_multiply_JJ l _ t0 t1 t2 (m_gy S) (m_y S (2 : Int32).toNatClampNeg)) (pr_pre (hx_R hRT G)) (gw_call (k := 2) hts tw_573 tw_574 tw_4 tw_575 (by decide +kernel) rfl rfl ⟨Nat.le_of_ble_eq_true rfl, Nat.le_of_ble_eq_true rfl⟩) rfl hl.1 rfl (Nat.le_of_ble_eq_true rfl) ⟨Nat.zero_le _, Nat.zero_le _⟩ d_M_energy_78 ?_
  refine pu_l (As := [.long (f_M_multiply_JJ (m_gx S) (m_x S (2 : Int32).toNatClampNeg)), .long (f_M_multiply_JJ (m_gy S) (m_y S (2 : Int32).toNatClampNeg))]) (rest := [.long v7, .long v8]) ⟨hx, hb, hml, hown, hts⟩ (c_M_add_JJ l _ t0 t1 t2 (f_M_multiply_JJ (m_gx S) (m_x S (2 : Int32).toNatClampNeg)) (f_M_multiply_JJ (m_gy S) (m_y S (2 : Int32).toNatClampNeg))) (pr_pre (hx_R hRT G)) (gw_call (k := 2) hts tw_611 tw_612 tw_4 tw_613 (by decide +kernel) rfl rfl ⟨Nat.le_of_ble_eq_true rfl, Nat.le_of_ble_eq_true rfl⟩) rfl hl.1 rfl (Nat.le_of_ble_eq_true rfl) ⟨Nat.zero_le _, Nat.zero_le _⟩ d_M_energy_81 ?_
  refine pu_l (As := [.long v7, .long (f_M_add_JJ (f_M_multiply_JJ (m_gx S) (m_x S (2 : Int32).toNatClampNeg)) (f_M_multiply_JJ (m_gy S) (m_y S (2 : Int32).toNatClampNeg)))]) (rest := [.long v8]) ⟨hx, hb, hml, hown, hts⟩ (c_M_multiply_JJ l _ t0 t1 t2 v7 (f_M_add_JJ (f_M_multiply_JJ (m_gx S) (m_x S (2 : Int32).toNatClampNeg)) (f_M_multiply_JJ (m_gy S) (m_y S (2 : Int32).toNatClampNeg)))) (pr_pre (hx_R hRT G)) (gw_call (k := 2) hts tw_573 tw_574 tw_4 tw_575 (by decide +kernel) rfl rfl ⟨Nat.le_of_ble_eq_true rfl, Nat.le_of_ble_eq_true rfl⟩) rfl hl.1 rfl (Nat.le_of_ble_eq_true rfl) ⟨Nat.zero_le _, Nat.zero_le _⟩ d_M_energy_84 ?_
  refine pu_l (As := [.long v8, .long (f_M_multiply_JJ v7 (f_M_add_JJ (f_M_multiply_JJ (m_gx S) (m_x S (2 : Int32).toNatClampNeg)) (f_M_multiply_JJ (m_gy S) (m_y S (2 : Int32).toNatClampNeg))))]) (rest := []) ⟨hx, hb, hml, hown, hts⟩ (c_M_subtract_JJ l _ t0 t1 t2 v8 (f_M_multiply_JJ v7 (f_M_add_JJ (f_M_multiply_JJ (m_gx S) (m_x S (2 : Int32).toNatClampNeg)) (f_M_multiply_JJ (m_gy S) (m_y S (2 : Int32).toNatClampNeg))))) (pr_pre (hx_R hRT G)) (gw_call (k := 2) hts tw_588 tw_589 tw_4 tw_590 (by decide +kernel) rfl rfl ⟨Nat.le_of_ble_eq_true rfl, Nat.le_of_ble_eq_true rfl⟩) rfl hl.1 rfl (Nat.le_of_ble_eq_true rfl) ⟨Nat.zero_le _, Nat.zero_le _⟩ d_M_energy_87 ?_
  refine lv_topl (fun v9 e9 => ?_)
  refine lv_lstore_n (lv' := [(1, .long v9), (4, .long v7), (3, .int (2 : Int32)), (0, .ref (ad 0))]) hx hb d_M_energy_90 rfl hl (by decide) rfl (fun ls hl => ?_)
  refine lv_iinc (v := (3 : Int32)) (lv' := [(3, .int (3 : Int32)), (1, .long v9), (4, .long v7), (0, .ref (ad 0))]) hx hb d_M_energy_91 hl (k := 2) rfl (by decide) (by decide) rfl (fun ls hl => ?_)
  refine lv_goto (tgt := 4) hx hb d_M_energy_94 (by decide) ?_
  refine lv_iload_n hx hb d_M_energy_4 rfl (lv_at hl 0 rfl) ?_
  refine lv_bipush (v := (8 : Int32)) hx hb d_M_energy_5 (by decide) ?_
  refine lv_icmp_ge (tgt := 97) hx hb d_M_energy_7 (by decide) (fun c0 => absurd c0 (by decide)) (fun _ => ?_)
  refine lv_aload_n hx hb d_M_energy_10 rfl (lv_at hl 3 rfl) ?_
  refine va_get (D := (dC, dI)) (ci := 3) (v := .ref (ad 5)) (C := R_M) (T := F_M) (N := 21) hx hb hts (fun w h => gm (i_M w h)) hown hK G.1 0 rfl rfl 4 (by decide) (hts _ (gm tw_425)) (fun _ h9 => h9) rfl d_M_energy_11 ?_
  refine lv_iload_n hx hb d_M_energy_14 rfl (lv_at hl 0 rfl) ?_
  refine va_lald hx hb hK G.1 5 0 rfl rfl (in_of (by decide) (by decide)) d_M_energy_15 ?_
  refine pu_l (As := [.long (m_m S (3 : Int32).toNatClampNeg)]) (rest := []) ⟨hx, hb, hml, hown, hts⟩ (c_M_toDouble_J l _ t0 t1 t2 (m_m S (3 : Int32).toNatClampNeg)) (pr_pre (hx_R hRT G)) (gw_call (k := 1) hts tw_570 tw_571 tw_4 tw_572 (by decide +kernel) rfl rfl ⟨Nat.le_of_ble_eq_true rfl, Nat.le_of_ble_eq_true rfl⟩) rfl hl.1 rfl (Nat.le_of_ble_eq_true rfl) ⟨Nat.zero_le _, Nat.zero_le _⟩ d_M_energy_16 ?_
  refine lv_topl (fun v10 e10 => ?_)
  refine lv_lstore (lv' := [(4, .long v10), (3, .int (3 : Int32)), (1, .long v9), (0, .ref (ad 0))]) hx hb d_M_energy_19 hl (by decide) rfl (fun ls hl => ?_)
  refine lv_lload_n hx hb d_M_energy_21 rfl (lv_at hl 2 rfl) ?_
  refine lv_ldc2 (v := (4602678819172646912 : Int64)) hx hb hown (hts _ (gm tw_695)) d_M_energy_22 ?_
  refine lv_lload hx hb d_M_energy_25 (lv_at hl 0 rfl) ?_
  refine pu_l (As := [.long (4602678819172646912 : Int64), .long v10]) (rest := [.long v9]) ⟨hx, hb, hml, hown, hts⟩ (c_M_multiply_JJ l _ t0 t1 t2 (4602678819172646912 : Int64) v10) (pr_pre (hx_R hRT G)) (gw_call (k := 2) hts tw_573 tw_574 tw_4 tw_575 (by decide +kernel) rfl rfl ⟨Nat.le_of_ble_eq_true rfl, Nat.le_of_ble_eq_true rfl⟩) rfl hl.1 rfl (Nat.le_of_ble_eq_true rfl) ⟨Nat.zero_le _, Nat.zero_le _⟩ d_M_energy_27 ?_
  refine lv_aload_n hx hb d_M_energy_30 rfl (lv_at hl 3 rfl) ?_
  refine va_get (D := (dC, dI)) (ci := 3) (v := .ref (ad 3)) (C := R_M) (T := F_M) (N := 21) hx hb hts (fun w h => gm (i_M w h)) hown hK G.1 0 rfl rfl 2 (by decide) (hts _ (gm tw_423)) (fun _ h9 => h9) rfl d_M_energy_31 ?_
  refine lv_iload_n hx hb d_M_energy_34 rfl (lv_at hl 1 rfl) ?_
  refine va_lald hx hb hK G.1 3 0 rfl rfl (in_of (by decide) (by decide)) d_M_energy_35 ?_
  refine lv_aload_n hx hb d_M_energy_36 rfl (lv_at hl 3 rfl) ?_
  refine va_get (D := (dC, dI)) (ci := 3) (v := .ref (ad 4)) (C := R_M) (T := F_M) (N := 21) hx hb hts (fun w h => gm (i_M w h)) hown hK G.1 0 rfl rfl 3 (by decide) (hts _ (gm tw_424)) (fun _ h9 => h9) rfl d_M_energy_37 ?_
  refine lv_iload_n hx hb d_M_energy_40 rfl (lv_at hl 1 rfl) ?_
  refine va_lald hx hb hK G.1 4 0 rfl rfl (in_of (by decide) (by decide)) d_M_energy_41 ?_
  refine pu_l (As := [.long (m_u S (3 : Int32).toNatClampNeg), .long (m_v S (3 : Int32).toNatClampNeg)]) (rest := [.long (f_M_multiply_JJ (4602678819172646912 : Int64) v10), .long v9]) ⟨hx, hb, hml, hown, hts⟩ (c_M_square_JJ l _ t0 t1 t2 (m_u S (3 : Int32).toNatClampNeg) (m_v S (3 : Int32).toNatClampNeg)) (pr_pre (hx_R hRT G)) (gw_call (k := 2) hts tw_608 tw_609 tw_4 tw_610 (by decide +kernel) rfl rfl ⟨Nat.le_of_ble_eq_true rfl, Nat.le_of_ble_eq_true rfl⟩) rfl hl.1 rfl (Nat.le_of_ble_eq_true rfl) ⟨Nat.zero_le _, Nat.zero_le _⟩ d_M_energy_42 ?_
  refine pu_l (As := [.long (f_M_multiply_JJ (4602678819172646912 : Int64) v10), .long (f_M_square_JJ (m_u S (3 : Int32).toNatClampNeg) (m_v S (3 : Int32).toNatClampNeg))]) (rest := [.long v9]) ⟨hx, hb, hml, hown, hts⟩ (c_M_multiply_JJ l _ t0 t1 t2 (f_M_multiply_JJ (4602678819172646912 : Int64) v10) (f_M_square_JJ (m_u S (3 : Int32).toNatClampNeg) (m_v S (3 : Int32).toNatClampNeg))) (pr_pre (hx_R hRT G)) (gw_call (k := 2) hts tw_573 tw_574 tw_4 tw_575 (by decide +kernel) rfl rfl ⟨Nat.le_of_ble_eq_true rfl, Nat.le_of_ble_eq_true rfl⟩) rfl hl.1 rfl (Nat.le_of_ble_eq_true rfl) ⟨Nat.zero_le _, Nat.zero_le _⟩ d_M_energy_45 ?_
  refine pu_l (As := [.long v9, .long (f_M_multiply_JJ (f_M_multiply_JJ (4602678819172646912 : Int64) v10) (f_M_square_JJ (m_u S (3 : Int32).toNatClampNeg) (m_v S (3 : Int32).toNatClampNeg)))]) (rest := []) ⟨hx, hb, hml, hown, hts⟩ (c_M_add_JJ l _ t0 t1 t2 v9 (f_M_multiply_JJ (f_M_multiply_JJ (4602678819172646912 : Int64) v10) (f_M_square_JJ (m_u S (3 : Int32).toNatClampNeg) (m_v S (3 : Int32).toNatClampNeg)))) (pr_pre (hx_R hRT G)) (gw_call (k := 2) hts tw_611 tw_612 tw_4 tw_613 (by decide +kernel) rfl rfl ⟨Nat.le_of_ble_eq_true rfl, Nat.le_of_ble_eq_true rfl⟩) rfl hl.1 rfl (Nat.le_of_ble_eq_true rfl) ⟨Nat.zero_le _, Nat.zero_le _⟩ d_M_energy_48 ?_
  refine lv_topl (fun v11 e11 => ?_)
  refine lv_lstore_n (lv' := [(1, .long v11), (4, .long v10), (3, .int (3 : Int32)), (0, .ref (ad 0))]) hx hb d_M_energy_51 rfl hl (by decide) rfl (fun ls hl => ?_)
  refine lv_lload_n hx hb d_M_energy_52 rfl (lv_at hl 0 rfl) ?_
  refine lv_lload hx hb d_M_energy_53 (lv_at hl 1 rfl) ?_
  refine lv_aload_n hx hb d_M_energy_55 rfl (lv_at hl 3 rfl) ?_
  refine va_get (D := (dC, dI)) (ci := 3) (v := .long (m_gx S)) (C := R_M) (T := F_M) (N := 21) hx hb hts (fun w h => gm (i_M w h)) hown hK G.1 0 rfl rfl 8 (by decide) (hts _ (gm tw_429)) (fun _ h9 => h9) rfl d_M_energy_56 ?_
  refine lv_aload_n hx hb d_M_energy_59 rfl (lv_at hl 3 rfl) ?_
  refine va_get (D := (dC, dI)) (ci := 3) (v := .ref (ad 1)) (C := R_M) (T := F_M) (N := 21) hx hb hts (fun w h => gm (i_M w h)) hown hK G.1 0 rfl rfl 0 (by decide) (hts _ (gm tw_421)) (fun _ h9 => h9) rfl d_M_energy_60 ?_
  refine lv_iload_n hx hb d_M_energy_63 rfl (lv_at hl 2 rfl) ?_
  refine va_lald hx hb hK G.1 1 0 rfl rfl (in_of (by decide) (by decide)) d_M_energy_64 ?_
  refine pu_l (As := [.long (m_gx S), .long (m_x S (3 : Int32).toNatClampNeg)]) (rest := [.long v10, .long v11]) ⟨hx, hb, hml, hown, hts⟩ (c_M_multiply_JJ l _ t0 t1 t2 (m_gx S) (m_x S (3 : Int32).toNatClampNeg)) (pr_pre (hx_R hRT G)) (gw_call (k := 2) hts tw_573 tw_574 tw_4 tw_575 (by decide +kernel) rfl rfl ⟨Nat.le_of_ble_eq_true rfl, Nat.le_of_ble_eq_true rfl⟩) rfl hl.1 rfl (Nat.le_of_ble_eq_true rfl) ⟨Nat.zero_le _, Nat.zero_le _⟩ d_M_energy_65 ?_
  refine lv_aload_n hx hb d_M_energy_68 rfl (lv_at hl 3 rfl) ?_
  refine va_get (D := (dC, dI)) (ci := 3) (v := .long (m_gy S)) (C := R_M) (T := F_M) (N := 21) hx hb hts (fun w h => gm (i_M w h)) hown hK G.1 0 rfl rfl 9 (by decide) (hts _ (gm tw_430)) (fun _ h9 => h9) rfl d_M_energy_69 ?_
  refine lv_aload_n hx hb d_M_energy_72 rfl (lv_at hl 3 rfl) ?_
  refine va_get (D := (dC, dI)) (ci := 3) (v := .ref (ad 2)) (C := R_M) (T := F_M) (N := 21) hx hb hts (fun w h => gm (i_M w h)) hown hK G.1 0 rfl rfl 1 (by decide) (hts _ (gm tw_422)) (fun _ h9 => h9) rfl d_M_energy_73 ?_
  refine lv_iload_n hx hb d_M_energy_76 rfl (lv_at hl 2 rfl) ?_
  refine va_lald hx hb hK G.1 2 0 rfl rfl (in_of (by decide) (by decide)) d_M_energy_77 ?_
  refine pu_l (As := [.long (m_gy S), .long (m_y S (3 : Int32).toNatClampNeg)]) (rest := [.long (f_M_multiply_JJ (m_gx S) (m_x S (3 : Int32).toNatClampNeg)), .long v10, .long v11]) ⟨hx, hb, hml, hown, hts⟩ (c_M_multiply_JJ l _ t0 t1 t2 (m_gy S) (m_y S (3 : Int32).toNatClampNeg)) (pr_pre (hx_R hRT G)) (gw_call (k := 2) hts tw_573 tw_574 tw_4 tw_575 (by decide +kernel) rfl rfl ⟨Nat.le_of_ble_eq_true rfl, Nat.le_of_ble_eq_true rfl⟩) rfl hl.1 rfl (Nat.le_of_ble_eq_true rfl) ⟨Nat.zero_le _, Nat.zero_le _⟩ d_M_energy_78 ?_
  refine pu_l (As := [.long (f_M_multiply_JJ (m_gx S) (m_x S (3 : Int32).toNatClampNeg)), .long (f_M_multiply_JJ (m_gy S) (m_y S (3 : Int32).toNatClampNeg))]) (rest := [.long v10, .long v11]) ⟨hx, hb, hml, hown, hts⟩ (c_M_add_JJ l _ t0 t1 t2 (f_M_multiply_JJ (m_gx S) (m_x S (3 : Int32).toNatClampNeg)) (f_M_multiply_JJ (m_gy S) (m_y S (3 : Int32).toNatClampNeg))) (pr_pre (hx_R hRT G)) (gw_call (k := 2) hts tw_611 tw_612 tw_4 tw_613 (by decide +kernel) rfl rfl ⟨Nat.le_of_ble_eq_true rfl, Nat.le_of_ble_eq_true rfl⟩) rfl hl.1 rfl (Nat.le_of_ble_eq_true rfl) ⟨Nat.zero_le _, Nat.zero_le _⟩ d_M_energy_81 ?_
  refine pu_l (As := [.long v10, .long (f_M_add_JJ (f_M_multiply_JJ (m_gx S) (m_x S (3 : Int32).toNatClampNeg)) (f_M_multiply_JJ (m_gy S) (m_y S (3 : Int32).toNatClampNeg)))]) (rest := [.long v11]) ⟨hx, hb, hml, hown, hts⟩ (c_M_multiply_JJ l _ t0 t1 t2 v10 (f_M_add_JJ (f_M_multiply_JJ (m_gx S) (m_x S (3 : Int32).toNatClampNeg)) (f_M_multiply_JJ (m_gy S) (m_y S (3 : Int32).toNatClampNeg)))) (pr_pre (hx_R hRT G)) (gw_call (k := 2) hts tw_573 tw_574 tw_4 tw_575 (by decide +kernel) rfl rfl ⟨Nat.le_of_ble_eq_true rfl, Nat.le_of_ble_eq_true rfl⟩) rfl hl.1 rfl (Nat.le_of_ble_eq_true rfl) ⟨Nat.zero_le _, Nat.zero_le _⟩ d_M_energy_84 ?_
  refine pu_l (As := [.long v11, .long (f_M_multiply_JJ v10 (f_M_add_JJ (f_M_multiply_JJ (m_gx S) (m_x S (3 : Int32).toNatClampNeg)) (f_M_multiply_JJ (m_gy S) (m_y S (3 : Int32).toNatClampNeg))))]) (rest := []) ⟨hx, hb, hml, hown, hts⟩ (c_M_subtract_JJ l _ t0 t1 t2 v11 (f_M_multiply_JJ v10 (f_M_add_JJ (f_M_multiply_JJ (m_gx S) (m_x S (3 : Int32).toNatClampNeg)) (f_M_multiply_JJ (m_gy S) (m_y S (3 : Int32).toNatClampNeg))))) (pr_pre (hx_R hRT G)) (gw_call (k := 2) hts tw_588 tw_589 tw_4 tw_590 (by decide +kernel) rfl rfl ⟨Nat.le_of_ble_eq_true rfl, Nat.le_of_ble_eq_true rfl⟩) rfl hl.1 rfl (Nat.le_of_ble_eq_true rfl) ⟨Nat.zero_le _, Nat.zero_le _⟩ d_M_energy_87 ?_
  refine lv_topl (fun v12 e12 => ?_)
  refine lv_lstore_n (lv' := [(1, .long v12), (4, .long v10), (3, .int (3 : Int32)), (0, .ref (ad 0))]) hx hb d_M_energy_90 rfl hl (by decide) rfl (fun ls hl => ?_)
  refine lv_iinc (v := (4 : Int32)) (lv' := [(3, .int (4 : Int32)), (1, .long v12), (4, .long v10), (0, .ref (ad 0))]) hx hb d_M_energy_91 hl (k := 2) rfl (by decide) (by decide) rfl (fun ls hl => ?_)
  refine lv_goto (tgt := 4) hx hb d_M_energy_94 (by decide) ?_
  refine lv_iload_n hx hb d_M_energy_4 rfl (lv_at hl 0 rfl) ?_
  refine lv_bipush (v := (8 : Int32)) hx hb d_M_energy_5 (by decide) ?_
  refine lv_icmp_ge (tgt := 97) hx hb d_M_energy_7 (by decide) (fun c0 => absurd c0 (by decide)) (fun _ => ?_)
  refine lv_aload_n hx hb d_M_energy_10 rfl (lv_at hl 3 rfl) ?_
  refine va_get (D := (dC, dI)) (ci := 3) (v := .ref (ad 5)) (C := R_M) (T := F_M) (N := 21) hx hb hts (fun w h => gm (i_M w h)) hown hK G.1 0 rfl rfl 4 (by decide) (hts _ (gm tw_425)) (fun _ h9 => h9) rfl d_M_energy_11 ?_
  refine lv_iload_n hx hb d_M_energy_14 rfl (lv_at hl 0 rfl) ?_
  refine va_lald hx hb hK G.1 5 0 rfl rfl (in_of (by decide) (by decide)) d_M_energy_15 ?_
  refine pu_l (As := [.long (m_m S (4 : Int32).toNatClampNeg)]) (rest := []) ⟨hx, hb, hml, hown, hts⟩ (c_M_toDouble_J l _ t0 t1 t2 (m_m S (4 : Int32).toNatClampNeg)) (pr_pre (hx_R hRT G)) (gw_call (k := 1) hts tw_570 tw_571 tw_4 tw_572 (by decide +kernel) rfl rfl ⟨Nat.le_of_ble_eq_true rfl, Nat.le_of_ble_eq_true rfl⟩) rfl hl.1 rfl (Nat.le_of_ble_eq_true rfl) ⟨Nat.zero_le _, Nat.zero_le _⟩ d_M_energy_16 ?_
  refine lv_topl (fun v13 e13 => ?_)
  refine lv_lstore (lv' := [(4, .long v13), (3, .int (4 : Int32)), (1, .long v12), (0, .ref (ad 0))]) hx hb d_M_energy_19 hl (by decide) rfl (fun ls hl => ?_)
  refine lv_lload_n hx hb d_M_energy_21 rfl (lv_at hl 2 rfl) ?_
  refine lv_ldc2 (v := (4602678819172646912 : Int64)) hx hb hown (hts _ (gm tw_695)) d_M_energy_22 ?_
  refine lv_lload hx hb d_M_energy_25 (lv_at hl 0 rfl) ?_
  refine pu_l (As := [.long (4602678819172646912 : Int64), .long v13]) (rest := [.long v12]) ⟨hx, hb, hml, hown, hts⟩ (c_M_multiply_JJ l _ t0 t1 t2 (4602678819172646912 : Int64) v13) (pr_pre (hx_R hRT G)) (gw_call (k := 2) hts tw_573 tw_574 tw_4 tw_575 (by decide +kernel) rfl rfl ⟨Nat.le_of_ble_eq_true rfl, Nat.le_of_ble_eq_true rfl⟩) rfl hl.1 rfl (Nat.le_of_ble_eq_true rfl) ⟨Nat.zero_le _, Nat.zero_le _⟩ d_M_energy_27 ?_
  refine lv_aload_n hx hb d_M_energy_30 rfl (lv_at hl 3 rfl) ?_
  refine va_get (D := (dC, dI)) (ci := 3) (v := .ref (ad 3)) (C := R_M) (T := F_M) (N := 21) hx hb hts (fun w h => gm (i_M w h)) hown hK G.1 0 rfl rfl 2 (by decide) (hts _ (gm tw_423)) (fun _ h9 => h9) rfl d_M_energy_31 ?_
  refine lv_iload_n hx hb d_M_energy_34 rfl (lv_at hl 1 rfl) ?_
  refine va_lald hx hb hK G.1 3 0 rfl rfl (in_of (by decide) (by decide)) d_M_energy_35 ?_
  refine lv_aload_n hx hb d_M_energy_36 rfl (lv_at hl 3 rfl) ?_
  refine va_get (D := (dC, dI)) (ci := 3) (v := .ref (ad 4)) (C := R_M) (T := F_M) (N := 21) hx hb hts (fun w h => gm (i_M w h)) hown hK G.1 0 rfl rfl 3 (by decide) (hts _ (gm tw_424)) (fun _ h9 => h9) rfl d_M_energy_37 ?_
  refine lv_iload_n hx hb d_M_energy_40 rfl (lv_at hl 1 rfl) ?_
  refine va_lald hx hb hK G.1 4 0 rfl rfl (in_of (by decide) (by decide)) d_M_energy_41 ?_
  refine pu_l (As := [.long (m_u S (4 : Int32).toNatClampNeg), .long (m_v S (4 : Int32).toNatClampNeg)]) (rest := [.long (f_M_multiply_JJ (4602678819172646912 : Int64) v13), .long v12]) ⟨hx, hb, hml, hown, hts⟩ (c_M_square_JJ l _ t0 t1 t2 (m_u S (4 : Int32).toNatClampNeg) (m_v S (4 : Int32).toNatClampNeg)) (pr_pre (hx_R hRT G)) (gw_call (k := 2) hts tw_608 tw_609 tw_4 tw_610 (by decide +kernel) rfl rfl ⟨Nat.le_of_ble_eq_true rfl, Nat.le_of_ble_eq_true rfl⟩) rfl hl.1 rfl (Nat.le_of_ble_eq_true rfl) ⟨Nat.zero_le _, Nat.zero_le _⟩ d_M_energy_42 ?_
  refine pu_l (As := [.long (f_M_multiply_JJ (4602678819172646912 : Int64) v13), .long (f_M_square_JJ (m_u S (4 : Int32).toNatClampNeg) (m_v S (4 : Int32).toNatClampNeg))]) (rest := [.long v12]) ⟨hx, hb, hml, hown, hts⟩ (c_M_multiply_JJ l _ t0 t1 t2 (f_M_multiply_JJ (4602678819172646912 : Int64) v13) (f_M_square_JJ (m_u S (4 : Int32).toNatClampNeg) (m_v S (4 : Int32).toNatClampNeg))) (pr_pre (hx_R hRT G)) (gw_call (k := 2) hts tw_573 tw_574 tw_4 tw_575 (by decide +kernel) rfl rfl ⟨Nat.le_of_ble_eq_true rfl, Nat.le_of_ble_eq_true rfl⟩) rfl hl.1 rfl (Nat.le_of_ble_eq_true rfl) ⟨Nat.zero_le _, Nat.zero_le _⟩ d_M_energy_45 ?_
  refine pu_l (As := [.long v12, .long (f_M_multiply_JJ (f_M_multiply_JJ (4602678819172646912 : Int64) v13) (f_M_square_JJ (m_u S (4 : Int32).toNatClampNeg) (m_v S (4 : Int32).toNatClampNeg)))]) (rest := []) ⟨hx, hb, hml, hown, hts⟩ (c_M_add_JJ l _ t0 t1 t2 v12 (f_M_multiply_JJ (f_M_multiply_JJ (4602678819172646912 : Int64) v13) (f_M_square_JJ (m_u S (4 : Int32).toNatClampNeg) (m_v S (4 : Int32).toNatClampNeg)))) (pr_pre (hx_R hRT G)) (gw_call (k := 2) hts tw_611 tw_612 tw_4 tw_613 (by decide +kernel) rfl rfl ⟨Nat.le_of_ble_eq_true rfl, Nat.le_of_ble_eq_true rfl⟩) rfl hl.1 rfl (Nat.le_of_ble_eq_true rfl) ⟨Nat.zero_le _, Nat.zero_le _⟩ d_M_energy_48 ?_
  refine lv_topl (fun v14 e14 => ?_)
  refine lv_lstore_n (lv' := [(1, .long v14), (4, .long v13), (3, .int (4 : Int32)), (0, .ref (ad 0))]) hx hb d_M_energy_51 rfl hl (by decide) rfl (fun ls hl => ?_)
  refine lv_lload_n hx hb d_M_energy_52 rfl (lv_at hl 0 rfl) ?_
  refine lv_lload hx hb d_M_energy_53 (lv_at hl 1 rfl) ?_
  refine lv_aload_n hx hb d_M_energy_55 rfl (lv_at hl 3 rfl) ?_
  refine va_get (D := (dC, dI)) (ci := 3) (v := .long (m_gx S)) (C := R_M) (T := F_M) (N := 21) hx hb hts (fun w h => gm (i_M w h)) hown hK G.1 0 rfl rfl 8 (by decide) (hts _ (gm tw_429)) (fun _ h9 => h9) rfl d_M_energy_56 ?_
  refine lv_aload_n hx hb d_M_energy_59 rfl (lv_at hl 3 rfl) ?_
  refine va_get (D := (dC, dI)) (ci := 3) (v := .ref (ad 1)) (C := R_M) (T := F_M) (N := 21) hx hb hts (fun w h => gm (i_M w h)) hown hK G.1 0 rfl rfl 0 (by decide) (hts _ (gm tw_421)) (fun _ h9 => h9) rfl d_M_energy_60 ?_
  refine lv_iload_n hx hb d_M_energy_63 rfl (lv_at hl 2 rfl) ?_
  refine va_lald hx hb hK G.1 1 0 rfl rfl (in_of (by decide) (by decide)) d_M_energy_64 ?_
  refine pu_l (As := [.long (m_gx S), .long (m_x S (4 : Int32).toNatClampNeg)]) (rest := [.long v13, .long v14]) ⟨hx, hb, hml, hown, hts⟩ (c_M_multiply_JJ l _ t0 t1 t2 (m_gx S) (m_x S (4 : Int32).toNatClampNeg)) (pr_pre (hx_R hRT G)) (gw_call (k := 2) hts tw_573 tw_574 tw_4 tw_575 (by decide +kernel) rfl rfl ⟨Nat.le_of_ble_eq_true rfl, Nat.le_of_ble_eq_true rfl⟩) rfl hl.1 rfl (Nat.le_of_ble_eq_true rfl) ⟨Nat.zero_le _, Nat.zero_le _⟩ d_M_energy_65 ?_
  refine lv_aload_n hx hb d_M_energy_68 rfl (lv_at hl 3 rfl) ?_
  refine va_get (D := (dC, dI)) (ci := 3) (v := .long (m_gy S)) (C := R_M) (T := F_M) (N := 21) hx hb hts (fun w h => gm (i_M w h)) hown hK G.1 0 rfl rfl 9 (by decide) (hts _ (gm tw_430)) (fun _ h9 => h9) rfl d_M_energy_69 ?_
  refine lv_aload_n hx hb d_M_energy_72 rfl (lv_at hl 3 rfl) ?_
  refine va_get (D := (dC, dI)) (ci := 3) (v := .ref (ad 2)) (C := R_M) (T := F_M) (N := 21) hx hb hts (fun w h => gm (i_M w h)) hown hK G.1 0 rfl rfl 1 (by decide) (hts _ (gm tw_422)) (fun _ h9 => h9) rfl d_M_energy_73 ?_
  refine lv_iload_n hx hb d_M_energy_76 rfl (lv_at hl 2 rfl) ?_
  refine va_lald hx hb hK G.1 2 0 rfl rfl (in_of (by decide) (by decide)) d_M_energy_77 ?_
  refine pu_l (As := [.long (m_gy S), .long (m_y S (4 : Int32).toNatClampNeg)]) (rest := [.long (f_M_multiply_JJ (m_gx S) (m_x S (4 : Int32).toNatClampNeg)), .long v13, .long v14]) ⟨hx, hb, hml, hown, hts⟩ (c_M_multiply_JJ l _ t0 t1 t2 (m_gy S) (m_y S (4 : Int32).toNatClampNeg)) (pr_pre (hx_R hRT G)) (gw_call (k := 2) hts tw_573 tw_574 tw_4 tw_575 (by decide +kernel) rfl rfl ⟨Nat.le_of_ble_eq_true rfl, Nat.le_of_ble_eq_true rfl⟩) rfl hl.1 rfl (Nat.le_of_ble_eq_true rfl) ⟨Nat.zero_le _, Nat.zero_le _⟩ d_M_energy_78 ?_
  refine pu_l (As := [.long (f_M_multiply_JJ (m_gx S) (m_x S (4 : Int32).toNatClampNeg)), .long (f_M_multiply_JJ (m_gy S) (m_y S (4 : Int32).toNatClampNeg))]) (rest := [.long v13, .long v14]) ⟨hx, hb, hml, hown, hts⟩ (c_M_add_JJ l _ t0 t1 t2 (f_M_multiply_JJ (m_gx S) (m_x S (4 : Int32).toNatClampNeg)) (f_M_multiply_JJ (m_gy S) (m_y S (4 : Int32).toNatClampNeg))) (pr_pre (hx_R hRT G)) (gw_call (k := 2) hts tw_611 tw_612 tw_4 tw_613 (by decide +kernel) rfl rfl ⟨Nat.le_of_ble_eq_true rfl, Nat.le_of_ble_eq_true rfl⟩) rfl hl.1 rfl (Nat.le_of_ble_eq_true rfl) ⟨Nat.zero_le _, Nat.zero_le _⟩ d_M_energy_81 ?_
  refine pu_l (As := [.long v13, .long (f_M_add_JJ (f_M_multiply_JJ (m_gx S) (m_x S (4 : Int32).toNatClampNeg)) (f_M_multiply_JJ (m_gy S) (m_y S (4 : Int32).toNatClampNeg)))]) (rest := [.long v14]) ⟨hx, hb, hml, hown, hts⟩ (c_M_multiply_JJ l _ t0 t1 t2 v13 (f_M_add_JJ (f_M_multiply_JJ (m_gx S) (m_x S (4 : Int32).toNatClampNeg)) (f_M_multiply_JJ (m_gy S) (m_y S (4 : Int32).toNatClampNeg)))) (pr_pre (hx_R hRT G)) (gw_call (k := 2) hts tw_573 tw_574 tw_4 tw_575 (by decide +kernel) rfl rfl ⟨Nat.le_of_ble_eq_true rfl, Nat.le_of_ble_eq_true rfl⟩) rfl hl.1 rfl (Nat.le_of_ble_eq_true rfl) ⟨Nat.zero_le _, Nat.zero_le _⟩ d_M_energy_84 ?_
  refine pu_l (As := [.long v14, .long (f_M_multiply_JJ v13 (f_M_add_JJ (f_M_multiply_JJ (m_gx S) (m_x S (4 : Int32).toNatClampNeg)) (f_M_multiply_JJ (m_gy S) (m_y S (4 : Int32).toNatClampNeg))))]) (rest := []) ⟨hx, hb, hml, hown, hts⟩ (c_M_subtract_JJ l _ t0 t1 t2 v14 (f_M_multiply_JJ v13 (f_M_add_JJ (f_M_multiply_JJ (m_gx S) (m_x S (4 : Int32).toNatClampNeg)) (f_M_multiply_JJ (m_gy S) (m_y S (4 : Int32).toNatClampNeg))))) (pr_pre (hx_R hRT G)) (gw_call (k := 2) hts tw_588 tw_589 tw_4 tw_590 (by decide +kernel) rfl rfl ⟨Nat.le_of_ble_eq_true rfl, Nat.le_of_ble_eq_true rfl⟩) rfl hl.1 rfl (Nat.le_of_ble_eq_true rfl) ⟨Nat.zero_le _, Nat.zero_le _⟩ d_M_energy_87 ?_
  refine lv_topl (fun v15 e15 => ?_)
  refine lv_lstore_n (lv' := [(1, .long v15), (4, .long v13), (3, .int (4 : Int32)), (0, .ref (ad 0))]) hx hb d_M_energy_90 rfl hl (by decide) rfl (fun ls hl => ?_)
  refine lv_iinc (v := (5 : Int32)) (lv' := [(3, .int (5 : Int32)), (1, .long v15), (4, .long v13), (0, .ref (ad 0))]) hx hb d_M_energy_91 hl (k := 2) rfl (by decide) (by decide) rfl (fun ls hl => ?_)
  refine lv_goto (tgt := 4) hx hb d_M_energy_94 (by decide) ?_
  refine lv_iload_n hx hb d_M_energy_4 rfl (lv_at hl 0 rfl) ?_
  refine lv_bipush (v := (8 : Int32)) hx hb d_M_energy_5 (by decide) ?_
  refine lv_icmp_ge (tgt := 97) hx hb d_M_energy_7 (by decide) (fun c0 => absurd c0 (by decide)) (fun _ => ?_)
  refine lv_aload_n hx hb d_M_energy_10 rfl (lv_at hl 3 rfl) ?_
  refine va_get (D := (dC, dI)) (ci := 3) (v := .ref (ad 5)) (C := R_M) (T := F_M) (N := 21) hx hb hts (fun w h => gm (i_M w h)) hown hK G.1 0 rfl rfl 4 (by decide) (hts _ (gm tw_425)) (fun _ h9 => h9) rfl d_M_energy_11 ?_
  refine lv_iload_n hx hb d_M_energy_14 rfl (lv_at hl 0 rfl) ?_
  refine va_lald hx hb hK G.1 5 0 rfl rfl (in_of (by decide) (by decide)) d_M_energy_15 ?_
  refine pu_l (As := [.long (m_m S (5 : Int32).toNatClampNeg)]) (rest := []) ⟨hx, hb, hml, hown, hts⟩ (c_M_toDouble_J l _ t0 t1 t2 (m_m S (5 : Int32).toNatClampNeg)) (pr_pre (hx_R hRT G)) (gw_call (k := 1) hts tw_570 tw_571 tw_4 tw_572 (by decide +kernel) rfl rfl ⟨Nat.le_of_ble_eq_true rfl, Nat.le_of_ble_eq_true rfl⟩) rfl hl.1 rfl (Nat.le_of_ble_eq_true rfl) ⟨Nat.zero_le _, Nat.zero_le _⟩ d_M_energy_16 ?_
  refine lv_topl (fun v16 e16 => ?_)
  refine lv_lstore (lv' := [(4, .long v16), (3, .int (5 : Int32)), (1, .long v15), (0, .ref (ad 0))]) hx hb d_M_energy_19 hl (by decide) rfl (fun ls hl => ?_)
  refine lv_lload_n hx hb d_M_energy_21 rfl (lv_at hl 2 rfl) ?_
  refine lv_ldc2 (v := (4602678819172646912 : Int64)) hx hb hown (hts _ (gm tw_695)) d_M_energy_22 ?_
  refine lv_lload hx hb d_M_energy_25 (lv_at hl 0 rfl) ?_
  refine pu_l (As := [.long (4602678819172646912 : Int64), .long v16]) (rest := [.long v15]) ⟨hx, hb, hml, hown, hts⟩ (c_M_multiply_JJ l _ t0 t1 t2 (4602678819172646912 : Int64) v16) (pr_pre (hx_R hRT G)) (gw_call (k := 2) hts tw_573 tw_574 tw_4 tw_575 (by decide +kernel) rfl rfl ⟨Nat.le_of_ble_eq_true rfl, Nat.le_of_ble_eq_true rfl⟩) rfl hl.1 rfl (Nat.le_of_ble_eq_true rfl) ⟨Nat.zero_le _, Nat.zero_le _⟩ d_M_energy_27 ?_
  refine lv_aload_n hx hb d_M_energy_30 rfl (lv_at hl 3 rfl) ?_
  refine va_get (D := (dC, dI)) (ci := 3) (v := .ref (ad 3)) (C := R_M) (T := F_M) (N := 21) hx hb hts (fun w h => gm (i_M w h)) hown hK G.1 0 rfl rfl 2 (by decide) (hts _ (gm tw_423)) (fun _ h9 => h9) rfl d_M_energy_31 ?_
  refine lv_iload_n hx hb d_M_energy_34 rfl (lv_at hl 1 rfl) ?_
  refine va_lald hx hb hK G.1 3 0 rfl rfl (in_of (by decide) (by decide)) d_M_energy_35 ?_
  refine lv_aload_n hx hb d_M_energy_36 rfl (lv_at hl 3 rfl) ?_
  refine va_get (D := (dC, dI)) (ci := 3) (v := .ref (ad 4)) (C := R_M) (T := F_M) (N := 21) hx hb hts (fun w h => gm (i_M w h)) hown hK G.1 0 rfl rfl 3 (by decide) (hts _ (gm tw_424)) (fun _ h9 => h9) rfl d_M_energy_37 ?_
  refine lv_iload_n hx hb d_M_energy_40 rfl (lv_at hl 1 rfl) ?_
  refine va_lald hx hb hK G.1 4 0 rfl rfl (in_of (by decide) (by decide)) d_M_energy_41 ?_
  refine pu_l (As := [.long (m_u S (5 : Int32).toNatClampNeg), .long (m_v S (5 : Int32).toNatClampNeg)]) (rest := [.long (f_M_multiply_JJ (4602678819172646912 : Int64) v16), .long v15]) ⟨hx, hb, hml, hown, hts⟩ (c_M_square_JJ l _ t0 t1 t2 (m_u S (5 : Int32).toNatClampNeg) (m_v S (5 : Int32).toNatClampNeg)) (pr_pre (hx_R hRT G)) (gw_call (k := 2) hts tw_608 tw_609 tw_4 tw_610 (by decide +kernel) rfl rfl ⟨Nat.le_of_ble_eq_true rfl, Nat.le_of_ble_eq_true rfl⟩) rfl hl.1 rfl (Nat.le_of_ble_eq_true rfl) ⟨Nat.zero_le _, Nat.zero_le _⟩ d_M_energy_42 ?_
  refine pu_l (As := [.long (f_M_multiply_JJ (4602678819172646912 : Int64) v16), .long (f_M_square_JJ (m_u S (5 : Int32).toNatClampNeg) (m_v S (5 : Int32).toNatClampNeg))]) (rest := [.long v15]) ⟨hx, hb, hml, hown, hts⟩ (c_M_multiply_JJ l _ t0 t1 t2 (f_M_multiply_JJ (4602678819172646912 : Int64) v16) (f_M_square_JJ (m_u S (5 : Int32).toNatClampNeg) (m_v S (5 : Int32).toNatClampNeg))) (pr_pre (hx_R hRT G)) (gw_call (k := 2) hts tw_573 tw_574 tw_4 tw_575 (by decide +kernel) rfl rfl ⟨Nat.le_of_ble_eq_true rfl, Nat.le_of_ble_eq_true rfl⟩) rfl hl.1 rfl (Nat.le_of_ble_eq_true rfl) ⟨Nat.zero_le _, Nat.zero_le _⟩ d_M_energy_45 ?_
  refine pu_l (As := [.long v15, .long (f_M_multiply_JJ (f_M_multiply_JJ (4602678819172646912 : Int64) v16) (f_M_square_JJ (m_u S (5 : Int32).toNatClampNeg) (m_v S (5 : Int32).toNatClampNeg)))]) (rest := []) ⟨hx, hb, hml, hown, hts⟩ (c_M_add_JJ l _ t0 t1 t2 v15 (f_M_multiply_JJ (f_M_multiply_JJ (4602678819172646912 : Int64) v16) (f_M_square_JJ (m_u S (5 : Int32).toNatClampNeg) (m_v S (5 : Int32).toNatClampNeg)))) (pr_pre (hx_R hRT G)) (gw_call (k := 2) hts tw_611 tw_612 tw_4 tw_613 (by decide +kernel) rfl rfl ⟨Nat.le_of_ble_eq_true rfl, Nat.le_of_ble_eq_true rfl⟩) rfl hl.1 rfl (Nat.le_of_ble_eq_true rfl) ⟨Nat.zero_le _, Nat.zero_le _⟩ d_M_energy_48 ?_
  refine lv_topl (fun v17 e17 => ?_)
  refine lv_lstore_n (lv' := [(1, .long v17), (4, .long v16), (3, .int (5 : Int32)), (0, .ref (ad 0))]) hx hb d_M_energy_51 rfl hl (by decide) rfl (fun ls hl => ?_)
  refine lv_lload_n hx hb d_M_energy_52 rfl (lv_at hl 0 rfl) ?_
  refine lv_lload hx hb d_M_energy_53 (lv_at hl 1 rfl) ?_
  refine lv_aload_n hx hb d_M_energy_55 rfl (lv_at hl 3 rfl) ?_
  refine va_get (D := (dC, dI)) (ci := 3) (v := .long (m_gx S)) (C := R_M) (T := F_M) (N := 21) hx hb hts (fun w h => gm (i_M w h)) hown hK G.1 0 rfl rfl 8 (by decide) (hts _ (gm tw_429)) (fun _ h9 => h9) rfl d_M_energy_56 ?_
  refine lv_aload_n hx hb d_M_energy_59 rfl (lv_at hl 3 rfl) ?_
  refine va_get (D := (dC, dI)) (ci := 3) (v := .ref (ad 1)) (C := R_M) (T := F_M) (N := 21) hx hb hts (fun w h => gm (i_M w h)) hown hK G.1 0 rfl rfl 0 (by decide) (hts _ (gm tw_421)) (fun _ h9 => h9) rfl d_M_energy_60 ?_
  refine lv_iload_n hx hb d_M_energy_63 rfl (lv_at hl 2 rfl) ?_
  refine va_lald hx hb hK G.1 1 0 rfl rfl (in_of (by decide) (by decide)) d_M_energy_64 ?_
  refine pu_l (As := [.long (m_gx S), .long (m_x S (5 : Int32).toNatClampNeg)]) (rest := [.long v16, .long v17]) ⟨hx, hb, hml, hown, hts⟩ (c_M_multiply_JJ l _ t0 t1 t2 (m_gx S) (m_x S (5 : Int32).toNatClampNeg)) (pr_pre (hx_R hRT G)) (gw_call (k := 2) hts tw_573 tw_574 tw_4 tw_575 (by decide +kernel) rfl rfl ⟨Nat.le_of_ble_eq_true rfl, Nat.le_of_ble_eq_true rfl⟩) rfl hl.1 rfl (Nat.le_of_ble_eq_true rfl) ⟨Nat.zero_le _, Nat.zero_le _⟩ d_M_energy_65 ?_
  refine lv_aload_n hx hb d_M_energy_68 rfl (lv_at hl 3 rfl) ?_
  refine va_get (D := (dC, dI)) (ci := 3) (v := .long (m_gy S)) (C := R_M) (T := F_M) (N := 21) hx hb hts (fun w h => gm (i_M w h)) hown hK G.1 0 rfl rfl 9 (by decide) (hts _ (gm tw_430)) (fun _ h9 => h9) rfl d_M_energy_69 ?_
  refine lv_aload_n hx hb d_M_energy_72 rfl (lv_at hl 3 rfl) ?_
  refine va_get (D := (dC, dI)) (ci := 3) (v := .ref (ad 2)) (C := R_M) (T := F_M) (N := 21) hx hb hts (fun w h => gm (i_M w h)) hown hK G.1 0 rfl rfl 1 (by decide) (hts _ (gm tw_422)) (fun _ h9 => h9) rfl d_M_energy_73 ?_
  refine lv_iload_n hx hb d_M_energy_76 rfl (lv_at hl 2 rfl) ?_
  refine va_lald hx hb hK G.1 2 0 rfl rfl (in_of (by decide) (by decide)) d_M_energy_77 ?_
  refine pu_l (As := [.long (m_gy S), .long (m_y S (5 : Int32).toNatClampNeg)]) (rest := [.long (f_M_multiply_JJ (m_gx S) (m_x S (5 : Int32).toNatClampNeg)), .long v16, .long v17]) ⟨hx, hb, hml, hown, hts⟩ (c_M_multiply_JJ l _ t0 t1 t2 (m_gy S) (m_y S (5 : Int32).toNatClampNeg)) (pr_pre (hx_R hRT G)) (gw_call (k := 2) hts tw_573 tw_574 tw_4 tw_575 (by decide +kernel) rfl rfl ⟨Nat.le_of_ble_eq_true rfl, Nat.le_of_ble_eq_true rfl⟩) rfl hl.1 rfl (Nat.le_of_ble_eq_true rfl) ⟨Nat.zero_le _, Nat.zero_le _⟩ d_M_energy_78 ?_
  refine pu_l (As := [.long (f_M_multiply_JJ (m_gx S) (m_x S (5 : Int32).toNatClampNeg)), .long (f_M_multiply_JJ (m_gy S) (m_y S (5 : Int32).toNatClampNeg))]) (rest := [.long v16, .long v17]) ⟨hx, hb, hml, hown, hts⟩ (c_M_add_JJ l _ t0 t1 t2 (f_M_multiply_JJ (m_gx S) (m_x S (5 : Int32).toNatClampNeg)) (f_M_multiply_JJ (m_gy S) (m_y S (5 : Int32).toNatClampNeg))) (pr_pre (hx_R hRT G)) (gw_call (k := 2) hts tw_611 tw_612 tw_4 tw_613 (by decide +kernel) rfl rfl ⟨Nat.le_of_ble_eq_true rfl, Nat.le_of_ble_eq_true rfl⟩) rfl hl.1 rfl (Nat.le_of_ble_eq_true rfl) ⟨Nat.zero_le _, Nat.zero_le _⟩ d_M_energy_81 ?_
  refine pu_l (As := [.long v16, .long (f_M_add_JJ (f_M_multiply_JJ (m_gx S) (m_x S (5 : Int32).toNatClampNeg)) (f_M_multiply_JJ (m_gy S) (m_y S (5 : Int32).toNatClampNeg)))]) (rest := [.long v17]) ⟨hx, hb, hml, hown, hts⟩ (c_M_multiply_JJ l _ t0 t1 t2 v16 (f_M_add_JJ (f_M_multiply_JJ (m_gx S) (m_x S (5 : Int32).toNatClampNeg)) (f_M_multiply_JJ (m_gy S) (m_y S (5 : Int32).toNatClampNeg)))) (pr_pre (hx_R hRT G)) (gw_call (k := 2) hts tw_573 tw_574 tw_4 tw_575 (by decide +kernel) rfl rfl ⟨Nat.le_of_ble_eq_true rfl, Nat.le_of_ble_eq_true rfl⟩) rfl hl.1 rfl (Nat.le_of_ble_eq_true rfl) ⟨Nat.zero_le _, Nat.zero_le _⟩ d_M_energy_84 ?_
  refine pu_l (As := [.long v17, .long (f_M_multiply_JJ v16 (f_M_add_JJ (f_M_multiply_JJ (m_gx S) (m_x S (5 : Int32).toNatClampNeg)) (f_M_multiply_JJ (m_gy S) (m_y S (5 : Int32).toNatClampNeg))))]) (rest := []) ⟨hx, hb, hml, hown, hts⟩ (c_M_subtract_JJ l _ t0 t1 t2 v17 (f_M_multiply_JJ v16 (f_M_add_JJ (f_M_multiply_JJ (m_gx S) (m_x S (5 : Int32).toNatClampNeg)) (f_M_multiply_JJ (m_gy S) (m_y S (5 : Int32).toNatClampNeg))))) (pr_pre (hx_R hRT G)) (gw_call (k := 2) hts tw_588 tw_589 tw_4 tw_590 (by decide +kernel) rfl rfl ⟨Nat.le_of_ble_eq_true rfl, Nat.le_of_ble_eq_true rfl⟩) rfl hl.1 rfl (Nat.le_of_ble_eq_true rfl) ⟨Nat.zero_le _, Nat.zero_le _⟩ d_M_energy_87 ?_
  refine lv_topl (fun v18 e18 => ?_)
  refine lv_lstore_n (lv' := [(1, .long v18), (4, .long v16), (3, .int (5 : Int32)), (0, .ref (ad 0))]) hx hb d_M_energy_90 rfl hl (by decide) rfl (fun ls hl => ?_)
  refine lv_iinc (v := (6 : Int32)) (lv' := [(3, .int (6 : Int32)), (1, .long v18), (4, .long v16), (0, .ref (ad 0))]) hx hb d_M_energy_91 hl (k := 2) rfl (by decide) (by decide) rfl (fun ls hl => ?_)
  refine lv_goto (tgt := 4) hx hb d_M_energy_94 (by decide) ?_
  refine lv_iload_n hx hb d_M_energy_4 rfl (lv_at hl 0 rfl) ?_
  refine lv_bipush (v := (8 : Int32)) hx hb d_M_energy_5 (by decide) ?_
  refine lv_icmp_ge (tgt := 97) hx hb d_M_energy_7 (by decide) (fun c0 => absurd c0 (by decide)) (fun _ => ?_)
  refine lv_aload_n hx hb d_M_energy_10 rfl (lv_at hl 3 rfl) ?_
  refine va_get (D := (dC, dI)) (ci := 3) (v := .ref (ad 5)) (C := R_M) (T := F_M) (N := 21) hx hb hts (fun w h => gm (i_M w h)) hown hK G.1 0 rfl rfl 4 (by decide) (hts _ (gm tw_425)) (fun _ h9 => h9) rfl d_M_energy_11 ?_
  refine lv_iload_n hx hb d_M_energy_14 rfl (lv_at hl 0 rfl) ?_
  refine va_lald hx hb hK G.1 5 0 rfl rfl (in_of (by decide) (by decide)) d_M_energy_15 ?_
  refine pu_l (As := [.long (m_m S (6 : Int32).toNatClampNeg)]) (rest := []) ⟨hx, hb, hml, hown, hts⟩ (c_M_toDouble_J l _ t0 t1 t2 (m_m S (6 : Int32).toNatClampNeg)) (pr_pre (hx_R hRT G)) (gw_call (k := 1) hts tw_570 tw_571 tw_4 tw_572 (by decide +kernel) rfl rfl ⟨Nat.le_of_ble_eq_true rfl, Nat.le_of_ble_eq_true rfl⟩) rfl hl.1 rfl (Nat.le_of_ble_eq_true rfl) ⟨Nat.zero_le _, Nat.zero_le _⟩ d_M_energy_16 ?_
  refine lv_topl (fun v19 e19 => ?_)
  refine lv_lstore (lv' := [(4, .long v19), (3, .int (6 : Int32)), (1, .long v18), (0, .ref (ad 0))]) hx hb d_M_energy_19 hl (by decide) rfl (fun ls hl => ?_)
  refine lv_lload_n hx hb d_M_energy_21 rfl (lv_at hl 2 rfl) ?_
  refine lv_ldc2 (v := (4602678819172646912 : Int64)) hx hb hown (hts _ (gm tw_695)) d_M_energy_22 ?_
  refine lv_lload hx hb d_M_energy_25 (lv_at hl 0 rfl) ?_
  refine pu_l (As := [.long (4602678819172646912 : Int64), .long v19]) (rest := [.long v18]) ⟨hx, hb, hml, hown, hts⟩ (c_M_multiply_JJ l _ t0 t1 t2 (4602678819172646912 : Int64) v19) (pr_pre (hx_R hRT G)) (gw_call (k := 2) hts tw_573 tw_574 tw_4 tw_575 (by decide +kernel) rfl rfl ⟨Nat.le_of_ble_eq_true rfl, Nat.le_of_ble_eq_true rfl⟩) rfl hl.1 rfl (Nat.le_of_ble_eq_true rfl) ⟨Nat.zero_le _, Nat.zero_le _⟩ d_M_energy_27 ?_
  refine lv_aload_n hx hb d_M_energy_30 rfl (lv_at hl 3 rfl) ?_
  refine va_get (D := (dC, dI)) (ci := 3) (v := .ref (ad 3)) (C := R_M) (T := F_M) (N := 21) hx hb hts (fun w h => gm (i_M w h)) hown hK G.1 0 rfl rfl 2 (by decide) (hts _ (gm tw_423)) (fun _ h9 => h9) rfl d_M_energy_31 ?_
  refine lv_iload_n hx hb d_M_energy_34 rfl (lv_at hl 1 rfl) ?_
  refine va_lald hx hb hK G.1 3 0 rfl rfl (in_of (by decide) (by decide)) d_M_energy_35 ?_
  refine lv_aload_n hx hb d_M_energy_36 rfl (lv_at hl 3 rfl) ?_
  refine va_get (D := (dC, dI)) (ci := 3) (v := .ref (ad 4)) (C := R_M) (T := F_M) (N := 21) hx hb hts (fun w h => gm (i_M w h)) hown hK G.1 0 rfl rfl 3 (by decide) (hts _ (gm tw_424)) (fun _ h9 => h9) rfl d_M_energy_37 ?_
  refine lv_iload_n hx hb d_M_energy_40 rfl (lv_at hl 1 rfl) ?_
  refine va_lald hx hb hK G.1 4 0 rfl rfl (in_of (by decide) (by decide)) d_M_energy_41 ?_
  refine pu_l (As := [.long (m_u S (6 : Int32).toNatClampNeg), .long (m_v S (6 : Int32).toNatClampNeg)]) (rest := [.long (f_M_multiply_JJ (4602678819172646912 : Int64) v19), .long v18]) ⟨hx, hb, hml, hown, hts⟩ (c_M_square_JJ l _ t0 t1 t2 (m_u S (6 : Int32).toNatClampNeg) (m_v S (6 : Int32).toNatClampNeg)) (pr_pre (hx_R hRT G)) (gw_call (k := 2) hts tw_608 tw_609 tw_4 tw_610 (by decide +kernel) rfl rfl ⟨Nat.le_of_ble_eq_true rfl, Nat.le_of_ble_eq_true rfl⟩) rfl hl.1 rfl (Nat.le_of_ble_eq_true rfl) ⟨Nat.zero_le _, Nat.zero_le _⟩ d_M_energy_42 ?_
  refine pu_l (As := [.long (f_M_multiply_JJ (4602678819172646912 : Int64) v19), .long (f_M_square_JJ (m_u S (6 : Int32).toNatClampNeg) (m_v S (6 : Int32).toNatClampNeg))]) (rest := [.long v18]) ⟨hx, hb, hml, hown, hts⟩ (c_M_multiply_JJ l _ t0 t1 t2 (f_M_multiply_JJ (4602678819172646912 : Int64) v19) (f_M_square_JJ (m_u S (6 : Int32).toNatClampNeg) (m_v S (6 : Int32).toNatClampNeg))) (pr_pre (hx_R hRT G)) (gw_call (k := 2) hts tw_573 tw_574 tw_4 tw_575 (by decide +kernel) rfl rfl ⟨Nat.le_of_ble_eq_true rfl, Nat.le_of_ble_eq_true rfl⟩) rfl hl.1 rfl (Nat.le_of_ble_eq_true rfl) ⟨Nat.zero_le _, Nat.zero_le _⟩ d_M_energy_45 ?_
  refine pu_l (As := [.long v18, .long (f_M_multiply_JJ (f_M_multiply_JJ (4602678819172646912 : Int64) v19) (f_M_square_JJ (m_u S (6 : Int32).toNatClampNeg) (m_v S (6 : Int32).toNatClampNeg)))]) (rest := []) ⟨hx, hb, hml, hown, hts⟩ (c_M_add_JJ l _ t0 t1 t2 v18 (f_M_multiply_JJ (f_M_multiply_JJ (4602678819172646912 : Int64) v19) (f_M_square_JJ (m_u S (6 : Int32).toNatClampNeg) (m_v S (6 : Int32).toNatClampNeg)))) (pr_pre (hx_R hRT G)) (gw_call (k := 2) hts tw_611 tw_612 tw_4 tw_613 (by decide +kernel) rfl rfl ⟨Nat.le_of_ble_eq_true rfl, Nat.le_of_ble_eq_true rfl⟩) rfl hl.1 rfl (Nat.le_of_ble_eq_true rfl) ⟨Nat.zero_le _, Nat.zero_le _⟩ d_M_energy_48 ?_
  refine lv_topl (fun v20 e20 => ?_)
  refine lv_lstore_n (lv' := [(1, .long v20), (4, .long v19), (3, .int (6 : Int32)), (0, .ref (ad 0))]) hx hb d_M_energy_51 rfl hl (by decide) rfl (fun ls hl => ?_)
  refine lv_lload_n hx hb d_M_energy_52 rfl (lv_at hl 0 rfl) ?_
  refine lv_lload hx hb d_M_energy_53 (lv_at hl 1 rfl) ?_
  refine lv_aload_n hx hb d_M_energy_55 rfl (lv_at hl 3 rfl) ?_
  refine va_get (D := (dC, dI)) (ci := 3) (v := .long (m_gx S)) (C := R_M) (T := F_M) (N := 21) hx hb hts (fun w h => gm (i_M w h)) hown hK G.1 0 rfl rfl 8 (by decide) (hts _ (gm tw_429)) (fun _ h9 => h9) rfl d_M_energy_56 ?_
  refine lv_aload_n hx hb d_M_energy_59 rfl (lv_at hl 3 rfl) ?_
  refine va_get (D := (dC, dI)) (ci := 3) (v := .ref (ad 1)) (C := R_M) (T := F_M) (N := 21) hx hb hts (fun w h => gm (i_M w h)) hown hK G.1 0 rfl rfl 0 (by decide) (hts _ (gm tw_421)) (fun _ h9 => h9) rfl d_M_energy_60 ?_
  refine lv_iload_n hx hb d_M_energy_63 rfl (lv_at hl 2 rfl) ?_
  refine va_lald hx hb hK G.1 1 0 rfl rfl (in_of (by decide) (by decide)) d_M_energy_64 ?_
  refine pu_l (As := [.long (m_gx S), .long (m_x S (6 : Int32).toNatClampNeg)]) (rest := [.long v19, .long v20]) ⟨hx, hb, hml, hown, hts⟩ (c_M_multiply_JJ l _ t0 t1 t2 (m_gx S) (m_x S (6 : Int32).toNatClampNeg)) (pr_pre (hx_R hRT G)) (gw_call (k := 2) hts tw_573 tw_574 tw_4 tw_575 (by decide +kernel) rfl rfl ⟨Nat.le_of_ble_eq_true rfl, Nat.le_of_ble_eq_true rfl⟩) rfl hl.1 rfl (Nat.le_of_ble_eq_true rfl) ⟨Nat.zero_le _, Nat.zero_le _⟩ d_M_energy_65 ?_
  refine lv_aload_n hx hb d_M_energy_68 rfl (lv_at hl 3 rfl) ?_
  refine va_get (D := (dC, dI)) (ci := 3) (v := .long (m_gy S)) (C := R_M) (T := F_M) (N := 21) hx hb hts (fun w h => gm (i_M w h)) hown hK G.1 0 rfl rfl 9 (by decide) (hts _ (gm tw_430)) (fun _ h9 => h9) rfl d_M_energy_69 ?_
  refine lv_aload_n hx hb d_M_energy_72 rfl (lv_at hl 3 rfl) ?_
  refine va_get (D := (dC, dI)) (ci := 3) (v := .ref (ad 2)) (C := R_M) (T := F_M) (N := 21) hx hb hts (fun w h => gm (i_M w h)) hown hK G.1 0 rfl rfl 1 (by decide) (hts _ (gm tw_422)) (fun _ h9 => h9) rfl d_M_energy_73 ?_
  refine lv_iload_n hx hb d_M_energy_76 rfl (lv_at hl 2 rfl) ?_
  refine va_lald hx hb hK G.1 2 0 rfl rfl (in_of (by decide) (by decide)) d_M_energy_77 ?_
  refine pu_l (As := [.long (m_gy S), .long (m_y S (6 : Int32).toNatClampNeg)]) (rest := [.long (f_M_multiply_JJ (m_gx S) (m_x S (6 : Int32).toNatClampNeg)), .long v19, .long v20]) ⟨hx, hb, hml, hown, hts⟩ (c_M_multiply_JJ l _ t0 t1 t2 (m_gy S) (m_y S (6 : Int32).toNatClampNeg)) (pr_pre (hx_R hRT G)) (gw_call (k := 2) hts tw_573 tw_574 tw_4 tw_575 (by decide +kernel) rfl rfl ⟨Nat.le_of_ble_eq_true rfl, Nat.le_of_ble_eq_true rfl⟩) rfl hl.1 rfl (Nat.le_of_ble_eq_true rfl) ⟨Nat.zero_le _, Nat.zero_le _⟩ d_M_energy_78 ?_
  refine pu_l (As := [.long (f_M_multiply_JJ (m_gx S) (m_x S (6 : Int32).toNatClampNeg)), .long (f_M_multiply_JJ (m_gy S) (m_y S (6 : Int32).toNatClampNeg))]) (rest := [.long v19, .long v20]) ⟨hx, hb, hml, hown, hts⟩ (c_M_add_JJ l _ t0 t1 t2 (f_M_multiply_JJ (m_gx S) (m_x S (6 : Int32).toNatClampNeg)) (f_M_multiply_JJ (m_gy S) (m_y S (6 : Int32).toNatClampNeg))) (pr_pre (hx_R hRT G)) (gw_call (k := 2) hts tw_611 tw_612 tw_4 tw_613 (by decide +kernel) rfl rfl ⟨Nat.le_of_ble_eq_true rfl, Nat.le_of_ble_eq_true rfl⟩) rfl hl.1 rfl (Nat.le_of_ble_eq_true rfl) ⟨Nat.zero_le _, Nat.zero_le _⟩ d_M_energy_81 ?_
  refine pu_l (As := [.long v19, .long (f_M_add_JJ (f_M_multiply_JJ (m_gx S) (m_x S (6 : Int32).toNatClampNeg)) (f_M_multiply_JJ (m_gy S) (m_y S (6 : Int32).toNatClampNeg)))]) (rest := [.long v20]) ⟨hx, hb, hml, hown, hts⟩ (c_M_multiply_JJ l _ t0 t1 t2 v19 (f_M_add_JJ (f_M_multiply_JJ (m_gx S) (m_x S (6 : Int32).toNatClampNeg)) (f_M_multiply_JJ (m_gy S) (m_y S (6 : Int32).toNatClampNeg)))) (pr_pre (hx_R hRT G)) (gw_call (k := 2) hts tw_573 tw_574 tw_4 tw_575 (by decide +kernel) rfl rfl ⟨Nat.le_of_ble_eq_true rfl, Nat.le_of_ble_eq_true rfl⟩) rfl hl.1 rfl (Nat.le_of_ble_eq_true rfl) ⟨Nat.zero_le _, Nat.zero_le _⟩ d_M_energy_84 ?_
  refine pu_l (As := [.long v20, .long (f_M_multiply_JJ v19 (f_M_add_JJ (f_M_multiply_JJ (m_gx S) (m_x S (6 : Int32).toNatClampNeg)) (f_M_multiply_JJ (m_gy S) (m_y S (6 : Int32).toNatClampNeg))))]) (rest := []) ⟨hx, hb, hml, hown, hts⟩ (c_M_subtract_JJ l _ t0 t1 t2 v20 (f_M_multiply_JJ v19 (f_M_add_JJ (f_M_multiply_JJ (m_gx S) (m_x S (6 : Int32).toNatClampNeg)) (f_M_multiply_JJ (m_gy S) (m_y S (6 : Int32).toNatClampNeg))))) (pr_pre (hx_R hRT G)) (gw_call (k := 2) hts tw_588 tw_589 tw_4 tw_590 (by decide +kernel) rfl rfl ⟨Nat.le_of_ble_eq_true rfl, Nat.le_of_ble_eq_true rfl⟩) rfl hl.1 rfl (Nat.le_of_ble_eq_true rfl) ⟨Nat.zero_le _, Nat.zero_le _⟩ d_M_energy_87 ?_
  refine lv_topl (fun v21 e21 => ?_)
  refine lv_lstore_n (lv' := [(1, .long v21), (4, .long v19), (3, .int (6 : Int32)), (0, .ref (ad 0))]) hx hb d_M_energy_90 rfl hl (by decide) rfl (fun ls hl => ?_)
  refine lv_iinc (v := (7 : Int32)) (lv' := [(3, .int (7 : Int32)), (1, .long v21), (4, .long v19), (0, .ref (ad 0))]) hx hb d_M_energy_91 hl (k := 2) rfl (by decide) (by decide) rfl (fun ls hl => ?_)
  refine lv_goto (tgt := 4) hx hb d_M_energy_94 (by decide) ?_
  refine lv_iload_n hx hb d_M_energy_4 rfl (lv_at hl 0 rfl) ?_
  refine lv_bipush (v := (8 : Int32)) hx hb d_M_energy_5 (by decide) ?_
  refine lv_icmp_ge (tgt := 97) hx hb d_M_energy_7 (by decide) (fun c0 => absurd c0 (by decide)) (fun _ => ?_)
  refine lv_aload_n hx hb d_M_energy_10 rfl (lv_at hl 3 rfl) ?_
  refine va_get (D := (dC, dI)) (ci := 3) (v := .ref (ad 5)) (C := R_M) (T := F_M) (N := 21) hx hb hts (fun w h => gm (i_M w h)) hown hK G.1 0 rfl rfl 4 (by decide) (hts _ (gm tw_425)) (fun _ h9 => h9) rfl d_M_energy_11 ?_
  refine lv_iload_n hx hb d_M_energy_14 rfl (lv_at hl 0 rfl) ?_
  refine va_lald hx hb hK G.1 5 0 rfl rfl (in_of (by decide) (by decide)) d_M_energy_15 ?_
  refine pu_l (As := [.long (m_m S (7 : Int32).toNatClampNeg)]) (rest := []) ⟨hx, hb, hml, hown, hts⟩ (c_M_toDouble_J l _ t0 t1 t2 (m_m S (7 : Int32).toNatClampNeg)) (pr_pre (hx_R hRT G)) (gw_call (k := 1) hts tw_570 tw_571 tw_4 tw_572 (by decide +kernel) rfl rfl ⟨Nat.le_of_ble_eq_true rfl, Nat.le_of_ble_eq_true rfl⟩) rfl hl.1 rfl (Nat.le_of_ble_eq_true rfl) ⟨Nat.zero_le _, Nat.zero_le _⟩ d_M_energy_16 ?_
  refine lv_topl (fun v22 e22 => ?_)
  refine lv_lstore (lv' := [(4, .long v22), (3, .int (7 : Int32)), (1, .long v21), (0, .ref (ad 0))]) hx hb d_M_energy_19 hl (by decide) rfl (fun ls hl => ?_)
  refine lv_lload_n hx hb d_M_energy_21 rfl (lv_at hl 2 rfl) ?_
  refine lv_ldc2 (v := (4602678819172646912 : Int64)) hx hb hown (hts _ (gm tw_695)) d_M_energy_22 ?_
  refine lv_lload hx hb d_M_energy_25 (lv_at hl 0 rfl) ?_
  refine pu_l (As := [.long (4602678819172646912 : Int64), .long v22]) (rest := [.long v21]) ⟨hx, hb, hml, hown, hts⟩ (c_M_multiply_JJ l _ t0 t1 t2 (4602678819172646912 : Int64) v22) (pr_pre (hx_R hRT G)) (gw_call (k := 2) hts tw_573 tw_574 tw_4 tw_575 (by decide +kernel) rfl rfl ⟨Nat.le_of_ble_eq_true rfl, Nat.le_of_ble_eq_true rfl⟩) rfl hl.1 rfl (Nat.le_of_ble_eq_true rfl) ⟨Nat.zero_le _, Nat.zero_le _⟩ d_M_energy_27 ?_
  refine lv_aload_n hx hb d_M_energy_30 rfl (lv_at hl 3 rfl) ?_
  refine va_get (D := (dC, dI)) (ci := 3) (v := .ref (ad 3)) (C := R_M) (T := F_M) (N := 21) hx hb hts (fun w h => gm (i_M w h)) hown hK G.1 0 rfl rfl 2 (by decide) (hts _ (gm tw_423)) (fun _ h9 => h9) rfl d_M_energy_31 ?_
  refine lv_iload_n hx hb d_M_energy_34 rfl (lv_at hl 1 rfl) ?_
  refine va_lald hx hb hK G.1 3 0 rfl rfl (in_of (by decide) (by decide)) d_M_energy_35 ?_
  refine lv_aload_n hx hb d_M_energy_36 rfl (lv_at hl 3 rfl) ?_
  refine va_get (D := (dC, dI)) (ci := 3) (v := .ref (ad 4)) (C := R_M) (T := F_M) (N := 21) hx hb hts (fun w h => gm (i_M w h)) hown hK G.1 0 rfl rfl 3 (by decide) (hts _ (gm tw_424)) (fun _ h9 => h9) rfl d_M_energy_37 ?_
  refine lv_iload_n hx hb d_M_energy_40 rfl (lv_at hl 1 rfl) ?_
  refine va_lald hx hb hK G.1 4 0 rfl rfl (in_of (by decide) (by decide)) d_M_energy_41 ?_
  refine pu_l (As := [.long (m_u S (7 : Int32).toNatClampNeg), .long (m_v S (7 : Int32).toNatClampNeg)]) (rest := [.long (f_M_multiply_JJ (4602678819172646912 : Int64) v22), .long v21]) ⟨hx, hb, hml, hown, hts⟩ (c_M_square_JJ l _ t0 t1 t2 (m_u S (7 : Int32).toNatClampNeg) (m_v S (7 : Int32).toNatClampNeg)) (pr_pre (hx_R hRT G)) (gw_call (k := 2) hts tw_608 tw_609 tw_4 tw_610 (by decide +kernel) rfl rfl ⟨Nat.le_of_ble_eq_true rfl, Nat.le_of_ble_eq_true rfl⟩) rfl hl.1 rfl (Nat.le_of_ble_eq_true rfl) ⟨Nat.zero_le _, Nat.zero_le _⟩ d_M_energy_42 ?_
  refine pu_l (As := [.long (f_M_multiply_JJ (4602678819172646912 : Int64) v22), .long (f_M_square_JJ (m_u S (7 : Int32).toNatClampNeg) (m_v S (7 : Int32).toNatClampNeg))]) (rest := [.long v21]) ⟨hx, hb, hml, hown, hts⟩ (c_M_multiply_JJ l _ t0 t1 t2 (f_M_multiply_JJ (4602678819172646912 : Int64) v22) (f_M_square_JJ (m_u S (7 : Int32).toNatClampNeg) (m_v S (7 : Int32).toNatClampNeg))) (pr_pre (hx_R hRT G)) (gw_call (k := 2) hts tw_573 tw_574 tw_4 tw_575 (by decide +kernel) rfl rfl ⟨Nat.le_of_ble_eq_true rfl, Nat.le_of_ble_eq_true rfl⟩) rfl hl.1 rfl (Nat.le_of_ble_eq_true rfl) ⟨Nat.zero_le _, Nat.zero_le _⟩ d_M_energy_45 ?_
  refine pu_l (As := [.long v21, .long (f_M_multiply_JJ (f_M_multiply_JJ (4602678819172646912 : Int64) v22) (f_M_square_JJ (m_u S (7 : Int32).toNatClampNeg) (m_v S (7 : Int32).toNatClampNeg)))]) (rest := []) ⟨hx, hb, hml, hown, hts⟩ (c_M_add_JJ l _ t0 t1 t2 v21 (f_M_multiply_JJ (f_M_multiply_JJ (4602678819172646912 : Int64) v22) (f_M_square_JJ (m_u S (7 : Int32).toNatClampNeg) (m_v S (7 : Int32).toNatClampNeg)))) (pr_pre (hx_R hRT G)) (gw_call (k := 2) hts tw_611 tw_612 tw_4 tw_613 (by decide +kernel) rfl rfl ⟨Nat.le_of_ble_eq_true rfl, Nat.le_of_ble_eq_true rfl⟩) rfl hl.1 rfl (Nat.le_of_ble_eq_true rfl) ⟨Nat.zero_le _, Nat.zero_le _⟩ d_M_energy_48 ?_
  refine lv_topl (fun v23 e23 => ?_)
  refine lv_lstore_n (lv' := [(1, .long v23), (4, .long v22), (3, .int (7 : Int32)), (0, .ref (ad 0))]) hx hb d_M_energy_51 rfl hl (by decide) rfl (fun ls hl => ?_)
  refine lv_lload_n hx hb d_M_energy_52 rfl (lv_at hl 0 rfl) ?_
  refine lv_lload hx hb d_M_energy_53 (lv_at hl 1 rfl) ?_
  refine lv_aload_n hx hb d_M_energy_55 rfl (lv_at hl 3 rfl) ?_
  refine va_get (D := (dC, dI)) (ci := 3) (v := .long (m_gx S)) (C := R_M) (T := F_M) (N := 21) hx hb hts (fun w h => gm (i_M w h)) hown hK G.1 0 rfl rfl 8 (by decide) (hts _ (gm tw_429)) (fun _ h9 => h9) rfl d_M_energy_56 ?_
  refine lv_aload_n hx hb d_M_energy_59 rfl (lv_at hl 3 rfl) ?_
  refine va_get (D := (dC, dI)) (ci := 3) (v := .ref (ad 1)) (C := R_M) (T := F_M) (N := 21) hx hb hts (fun w h => gm (i_M w h)) hown hK G.1 0 rfl rfl 0 (by decide) (hts _ (gm tw_421)) (fun _ h9 => h9) rfl d_M_energy_60 ?_
  refine lv_iload_n hx hb d_M_energy_63 rfl (lv_at hl 2 rfl) ?_
  refine va_lald hx hb hK G.1 1 0 rfl rfl (in_of (by decide) (by decide)) d_M_energy_64 ?_
  refine pu_l (As := [.long (m_gx S), .long (m_x S (7 : Int32).toNatClampNeg)]) (rest := [.long v22, .long v23]) ⟨hx, hb, hml, hown, hts⟩ (c_M_multiply_JJ l _ t0 t1 t2 (m_gx S) (m_x S (7 : Int32).toNatClampNeg)) (pr_pre (hx_R hRT G)) (gw_call (k := 2) hts tw_573 tw_574 tw_4 tw_575 (by decide +kernel) rfl rfl ⟨Nat.le_of_ble_eq_true rfl, Nat.le_of_ble_eq_true rfl⟩) rfl hl.1 rfl (Nat.le_of_ble_eq_true rfl) ⟨Nat.zero_le _, Nat.zero_le _⟩ d_M_energy_65 ?_
  refine lv_aload_n hx hb d_M_energy_68 rfl (lv_at hl 3 rfl) ?_
  refine va_get (D := (dC, dI)) (ci := 3) (v := .long (m_gy S)) (C := R_M) (T := F_M) (N := 21) hx hb hts (fun w h => gm (i_M w h)) hown hK G.1 0 rfl rfl 9 (by decide) (hts _ (gm tw_430)) (fun _ h9 => h9) rfl d_M_energy_69 ?_
  refine lv_aload_n hx hb d_M_energy_72 rfl (lv_at hl 3 rfl) ?_
  refine va_get (D := (dC, dI)) (ci := 3) (v := .ref (ad 2)) (C := R_M) (T := F_M) (N := 21) hx hb hts (fun w h => gm (i_M w h)) hown hK G.1 0 rfl rfl 1 (by decide) (hts _ (gm tw_422)) (fun _ h9 => h9) rfl d_M_energy_73 ?_
  refine lv_iload_n hx hb d_M_energy_76 rfl (lv_at hl 2 rfl) ?_
  refine va_lald hx hb hK G.1 2 0 rfl rfl (in_of (by decide) (by decide)) d_M_energy_77 ?_
  refine pu_l (As := [.long (m_gy S), .long (m_y S (7 : Int32).toNatClampNeg)]) (rest := [.long (f_M_multiply_JJ (m_gx S) (m_x S (7 : Int32).toNatClampNeg)), .long v22, .long v23]) ⟨hx, hb, hml, hown, hts⟩ (c_M_multiply_JJ l _ t0 t1 t2 (m_gy S) (m_y S (7 : Int32).toNatClampNeg)) (pr_pre (hx_R hRT G)) (gw_call (k := 2) hts tw_573 tw_574 tw_4 tw_575 (by decide +kernel) rfl rfl ⟨Nat.le_of_ble_eq_true rfl, Nat.le_of_ble_eq_true rfl⟩) rfl hl.1 rfl (Nat.le_of_ble_eq_true rfl) ⟨Nat.zero_le _, Nat.zero_le _⟩ d_M_energy_78 ?_
  refine pu_l (As := [.long (f_M_multiply_JJ (m_gx S) (m_x S (7 : Int32).toNatClampNeg)), .long (f_M_multiply_JJ (m_gy S) (m_y S (7 : Int32).toNatClampNeg))]) (rest := [.long v22, .long v23]) ⟨hx, hb, hml, hown, hts⟩ (c_M_add_JJ l _ t0 t1 t2 (f_M_multiply_JJ (m_gx S) (m_x S (7 : Int32).toNatClampNeg)) (f_M_multiply_JJ (m_gy S) (m_y S (7 : Int32).toNatClampNeg))) (pr_pre (hx_R hRT G)) (gw_call (k := 2) hts tw_611 tw_612 tw_4 tw_613 (by decide +kernel) rfl rfl ⟨Nat.le_of_ble_eq_true rfl, Nat.le_of_ble_eq_true rfl⟩) rfl hl.1 rfl (Nat.le_of_ble_eq_true rfl) ⟨Nat.zero_le _, Nat.zero_le _⟩ d_M_energy_81 ?_
  refine pu_l (As := [.long v22, .long (f_M_add_JJ (f_M_multiply_JJ (m_gx S) (m_x S (7 : Int32).toNatClampNeg)) (f_M_multiply_JJ (m_gy S) (m_y S (7 : Int32).toNatClampNeg)))]) (rest := [.long v23]) ⟨hx, hb, hml, hown, hts⟩ (c_M_multiply_JJ l _ t0 t1 t2 v22 (f_M_add_JJ (f_M_multiply_JJ (m_gx S) (m_x S (7 : Int32).toNatClampNeg)) (f_M_multiply_JJ (m_gy S) (m_y S (7 : Int32).toNatClampNeg)))) (pr_pre (hx_R hRT G)) (gw_call (k := 2) hts tw_573 tw_574 tw_4 tw_575 (by decide +kernel) rfl rfl ⟨Nat.le_of_ble_eq_true rfl, Nat.le_of_ble_eq_true rfl⟩) rfl hl.1 rfl (Nat.le_of_ble_eq_true rfl) ⟨Nat.zero_le _, Nat.zero_le _⟩ d_M_energy_84 ?_
  refine pu_l (As := [.long v23, .long (f_M_multiply_JJ v22 (f_M_add_JJ (f_M_multiply_JJ (m_gx S) (m_x S (7 : Int32).toNatClampNeg)) (f_M_multiply_JJ (m_gy S) (m_y S (7 : Int32).toNatClampNeg))))]) (rest := []) ⟨hx, hb, hml, hown, hts⟩ (c_M_subtract_JJ l _ t0 t1 t2 v23 (f_M_multiply_JJ v22 (f_M_add_JJ (f_M_multiply_JJ (m_gx S) (m_x S (7 : Int32).toNatClampNeg)) (f_M_multiply_JJ (m_gy S) (m_y S (7 : Int32).toNatClampNeg))))) (pr_pre (hx_R hRT G)) (gw_call (k := 2) hts tw_588 tw_589 tw_4 tw_590 (by decide +kernel) rfl rfl ⟨Nat.le_of_ble_eq_true rfl, Nat.le_of_ble_eq_true rfl⟩) rfl hl.1 rfl (Nat.le_of_ble_eq_true rfl) ⟨Nat.zero_le _, Nat.zero_le _⟩ d_M_energy_87 ?_
  refine lv_topl (fun v24 e24 => ?_)
  refine lv_lstore_n (lv' := [(1, .long v24), (4, .long v22), (3, .int (7 : Int32)), (0, .ref (ad 0))]) hx hb d_M_energy_90 rfl hl (by decide) rfl (fun ls hl => ?_)
  refine lv_iinc (v := (8 : Int32)) (lv' := [(3, .int (8 : Int32)), (1, .long v24), (4, .long v22), (0, .ref (ad 0))]) hx hb d_M_energy_91 hl (k := 2) rfl (by decide) (by decide) rfl (fun ls hl => ?_)
  refine lv_goto (tgt := 4) hx hb d_M_energy_94 (by decide) ?_
  refine lv_iload_n hx hb d_M_energy_4 rfl (lv_at hl 0 rfl) ?_
  refine lv_bipush (v := (8 : Int32)) hx hb d_M_energy_5 (by decide) ?_
  refine lv_icmp_ge (tgt := 97) hx hb d_M_energy_7 (by decide) (fun _ => ?_) (fun c0 => absurd c0 (by decide))
  refine lv_iconst (v := 0) hx hb d_M_energy_97 (by decide) ?_
  refine lv_istore_n (lv' := [(3, .int (0 : Int32)), (1, .long v24), (4, .long v22), (0, .ref (ad 0))]) hx hb d_M_energy_98 rfl hl (by decide) rfl (fun ls hl => ?_)
  exact k_M_energy_99 C0 hRT hK hAe hA ((m_springs S).toNatClampNeg + 1) S v24 (0 : Int32) hOK fl_first _ _ G ls (lv_sub hl [3, 1, 0] rfl) (by have qe1 := e1.symm; have qe2 := e2.symm; have qe3 := e3.symm; have qe4 := e4.symm; have qe5 := e5.symm; have qe6 := e6.symm; have qe7 := e7.symm; have qe8 := e8.symm; have qe9 := e9.symm; have qe10 := e10.symm; have qe11 := e11.symm; have qe12 := e12.symm; have qe13 := e13.symm; have qe14 := e14.symm; have qe15 := e15.symm; have qe16 := e16.symm; have qe17 := e17.symm; have qe18 := e18.symm; have qe19 := e19.symm; have qe20 := e20.symm; have qe21 := e21.symm; have qe22 := e22.symm; have qe23 := e23.symm; have qe24 := e24.symm; subst qe1 qe2 qe3 qe4 qe5 qe6 qe7 qe8 qe9 qe10 qe11 qe12 qe13 qe14 qe15 qe16 qe17 qe18 qe19 qe20 qe21 qe22 qe23 qe24; exact rfl)
