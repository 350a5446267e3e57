-- ===== MotionLabModel.go([J[J[JI)V 0
abbrev y_M_go_AJAJAJI : MethodName := ⟨"MotionLabModel", "go", "([J[J[JI)V"⟩
abbrev b_M_go_AJAJAJI : ByteArray := prog_6_method_41_code
theorem d_M_go_AJAJAJI_0 : decode b_M_go_AJAJAJI 0 = .ok (.aload_n 0, 1) := by decide +kernel
theorem d_M_go_AJAJAJI_1 : decode b_M_go_AJAJAJI 1 = .ok (.getfield 160, 3) := by decide +kernel
theorem d_M_go_AJAJAJI_4 : decode b_M_go_AJAJAJI 4 = .ok (.invokestatic 229, 3) := by decide +kernel
theorem d_M_go_AJAJAJI_7 : decode b_M_go_AJAJAJI 7 = .ok (.lstore 5, 2) := by decide +kernel
theorem d_M_go_AJAJAJI_9 : decode b_M_go_AJAJAJI 9 = .ok (.aload_n 0, 1) := by decide +kernel
theorem d_M_go_AJAJAJI_10 : decode b_M_go_AJAJAJI 10 = .ok (.getfield 169, 3) := by decide +kernel
theorem d_M_go_AJAJAJI_13 : decode b_M_go_AJAJAJI 13 = .ok (.invokestatic 229, 3) := by decide +kernel
theorem d_M_go_AJAJAJI_16 : decode b_M_go_AJAJAJI 16 = .ok (.lstore 7, 2) := by decide +kernel
theorem d_M_go_AJAJAJI_18 : decode b_M_go_AJAJAJI 18 = .ok (.aload_n 2, 1) := by decide +kernel
theorem d_M_go_AJAJAJI_19 : decode b_M_go_AJAJAJI 19 = .ok (.iload 4, 2) := by decide +kernel
theorem d_M_go_AJAJAJI_21 : decode b_M_go_AJAJAJI 21 = .ok (.aload_n 2, 1) := by decide +kernel
theorem d_M_go_AJAJAJI_22 : decode b_M_go_AJAJAJI 22 = .ok (.iload 4, 2) := by decide +kernel
theorem d_M_go_AJAJAJI_24 : decode b_M_go_AJAJAJI 24 = .ok (.laload, 1) := by decide +kernel
theorem d_M_go_AJAJAJI_25 : decode b_M_go_AJAJAJI 25 = .ok (.aload_n 3, 1) := by decide +kernel
theorem d_M_go_AJAJAJI_26 : decode b_M_go_AJAJAJI 26 = .ok (.iload 4, 2) := by decide +kernel
theorem d_M_go_AJAJAJI_28 : decode b_M_go_AJAJAJI 28 = .ok (.laload, 1) := by decide +kernel
theorem d_M_go_AJAJAJI_29 : decode b_M_go_AJAJAJI 29 = .ok (.aload_n 0, 1) := by decide +kernel
theorem d_M_go_AJAJAJI_30 : decode b_M_go_AJAJAJI 30 = .ok (.getfield 146, 3) := by decide +kernel
theorem d_M_go_AJAJAJI_33 : decode b_M_go_AJAJAJI 33 = .ok (.iload 4, 2) := by decide +kernel
theorem d_M_go_AJAJAJI_35 : decode b_M_go_AJAJAJI 35 = .ok (.laload, 1) := by decide +kernel
theorem d_M_go_AJAJAJI_36 : decode b_M_go_AJAJAJI 36 = .ok (.invokestatic 229, 3) := by decide +kernel
theorem d_M_go_AJAJAJI_39 : decode b_M_go_AJAJAJI 39 = .ok (.invokestatic 121, 3) := by decide +kernel
theorem d_M_go_AJAJAJI_42 : decode b_M_go_AJAJAJI 42 = .ok (.lload 5, 2) := by decide +kernel
theorem d_M_go_AJAJAJI_44 : decode b_M_go_AJAJAJI 44 = .ok (.invokestatic 216, 3) := by decide +kernel
theorem d_M_go_AJAJAJI_47 : decode b_M_go_AJAJAJI 47 = .ok (.invokestatic 123, 3) := by decide +kernel
theorem d_M_go_AJAJAJI_50 : decode b_M_go_AJAJAJI 50 = .ok (.lastore, 1) := by decide +kernel
theorem d_M_go_AJAJAJI_51 : decode b_M_go_AJAJAJI 51 = .ok (.aload_n 1, 1) := by decide +kernel
theorem d_M_go_AJAJAJI_52 : decode b_M_go_AJAJAJI 52 = .ok (.iload 4, 2) := by decide +kernel
theorem d_M_go_AJAJAJI_54 : decode b_M_go_AJAJAJI 54 = .ok (.aload_n 1, 1) := by decide +kernel
theorem d_M_go_AJAJAJI_55 : decode b_M_go_AJAJAJI 55 = .ok (.iload 4, 2) := by decide +kernel
theorem d_M_go_AJAJAJI_57 : decode b_M_go_AJAJAJI 57 = .ok (.laload, 1) := by decide +kernel
theorem d_M_go_AJAJAJI_58 : decode b_M_go_AJAJAJI 58 = .ok (.aload_n 2, 1) := by decide +kernel
theorem d_M_go_AJAJAJI_59 : decode b_M_go_AJAJAJI 59 = .ok (.iload 4, 2) := by decide +kernel
theorem d_M_go_AJAJAJI_61 : decode b_M_go_AJAJAJI 61 = .ok (.laload, 1) := by decide +kernel
theorem d_M_go_AJAJAJI_62 : decode b_M_go_AJAJAJI 62 = .ok (.lload 5, 2) := by decide +kernel
theorem d_M_go_AJAJAJI_64 : decode b_M_go_AJAJAJI 64 = .ok (.invokestatic 216, 3) := by decide +kernel
theorem d_M_go_AJAJAJI_67 : decode b_M_go_AJAJAJI 67 = .ok (.invokestatic 123, 3) := by decide +kernel
theorem d_M_go_AJAJAJI_70 : decode b_M_go_AJAJAJI 70 = .ok (.lastore, 1) := by decide +kernel
theorem d_M_go_AJAJAJI_71 : decode b_M_go_AJAJAJI 71 = .ok (.aload_n 1, 1) := by decide +kernel
theorem d_M_go_AJAJAJI_72 : decode b_M_go_AJAJAJI 72 = .ok (.iload 4, 2) := by decide +kernel
theorem d_M_go_AJAJAJI_74 : decode b_M_go_AJAJAJI 74 = .ok (.laload, 1) := by decide +kernel
theorem d_M_go_AJAJAJI_75 : decode b_M_go_AJAJAJI 75 = .ok (.aload_n 0, 1) := by decide +kernel
theorem d_M_go_AJAJAJI_76 : decode b_M_go_AJAJAJI 76 = .ok (.getfield 164, 3) := by decide +kernel
theorem d_M_go_AJAJAJI_79 : decode b_M_go_AJAJAJI 79 = .ok (.invokestatic 116, 3) := by decide +kernel
theorem d_M_go_AJAJAJI_82 : decode b_M_go_AJAJAJI 82 = .ok (.iconst 1, 1) := by decide +kernel
theorem d_M_go_AJAJAJI_83 : decode b_M_go_AJAJAJI 83 = .ok (.if_icmp .ne 50, 3) := by decide +kernel
theorem d_M_go_AJAJAJI_86 : decode b_M_go_AJAJAJI 86 = .ok (.aload_n 1, 1) := by decide +kernel
theorem d_M_go_AJAJAJI_87 : decode b_M_go_AJAJAJI 87 = .ok (.iload 4, 2) := by decide +kernel
theorem d_M_go_AJAJAJI_89 : decode b_M_go_AJAJAJI 89 = .ok (.aload_n 0, 1) := by decide +kernel
theorem d_M_go_AJAJAJI_90 : decode b_M_go_AJAJAJI 90 = .ok (.getfield 164, 3) := by decide +kernel
theorem d_M_go_AJAJAJI_93 : decode b_M_go_AJAJAJI 93 = .ok (.aload_n 1, 1) := by decide +kernel
theorem d_M_go_AJAJAJI_94 : decode b_M_go_AJAJAJI 94 = .ok (.iload 4, 2) := by decide +kernel
theorem d_M_go_AJAJAJI_96 : decode b_M_go_AJAJAJI 96 = .ok (.laload, 1) := by decide +kernel
theorem d_M_go_AJAJAJI_97 : decode b_M_go_AJAJAJI 97 = .ok (.aload_n 0, 1) := by decide +kernel
theorem d_M_go_AJAJAJI_98 : decode b_M_go_AJAJAJI 98 = .ok (.getfield 164, 3) := by decide +kernel
theorem d_M_go_AJAJAJI_101 : decode b_M_go_AJAJAJI 101 = .ok (.invokestatic 218, 3) := by decide +kernel
theorem d_M_go_AJAJAJI_104 : decode b_M_go_AJAJAJI 104 = .ok (.lload 7, 2) := by decide +kernel
theorem d_M_go_AJAJAJI_106 : decode b_M_go_AJAJAJI 106 = .ok (.invokestatic 216, 3) := by decide +kernel
theorem d_M_go_AJAJAJI_109 : decode b_M_go_AJAJAJI 109 = .ok (.invokestatic 218, 3) := by decide +kernel
theorem d_M_go_AJAJAJI_112 : decode b_M_go_AJAJAJI 112 = .ok (.lastore, 1) := by decide +kernel
theorem d_M_go_AJAJAJI_113 : decode b_M_go_AJAJAJI 113 = .ok (.aload_n 2, 1) := by decide +kernel
theorem d_M_go_AJAJAJI_114 : decode b_M_go_AJAJAJI 114 = .ok (.iload 4, 2) := by decide +kernel
theorem d_M_go_AJAJAJI_116 : decode b_M_go_AJAJAJI 116 = .ok (.aload_n 2, 1) := by decide +kernel
theorem d_M_go_AJAJAJI_117 : decode b_M_go_AJAJAJI 117 = .ok (.iload 4, 2) := by decide +kernel
theorem d_M_go_AJAJAJI_119 : decode b_M_go_AJAJAJI 119 = .ok (.laload, 1) := by decide +kernel
theorem d_M_go_AJAJAJI_120 : decode b_M_go_AJAJAJI 120 = .ok (.lload 7, 2) := by decide +kernel
theorem d_M_go_AJAJAJI_122 : decode b_M_go_AJAJAJI 122 = .ok (.invokestatic 216, 3) := by decide +kernel
theorem d_M_go_AJAJAJI_125 : decode b_M_go_AJAJAJI 125 = .ok (.iconst 0, 1) := by decide +kernel
theorem d_M_go_AJAJAJI_126 : decode b_M_go_AJAJAJI 126 = .ok (.invokestatic 79, 3) := by decide +kernel
theorem d_M_go_AJAJAJI_129 : decode b_M_go_AJAJAJI 129 = .ok (.lastore, 1) := by decide +kernel
theorem d_M_go_AJAJAJI_130 : decode b_M_go_AJAJAJI 130 = .ok (.goto 70, 3) := by decide +kernel
theorem d_M_go_AJAJAJI_133 : decode b_M_go_AJAJAJI 133 = .ok (.aload_n 1, 1) := by decide +kernel
theorem d_M_go_AJAJAJI_134 : decode b_M_go_AJAJAJI 134 = .ok (.iload 4, 2) := by decide +kernel
theorem d_M_go_AJAJAJI_136 : decode b_M_go_AJAJAJI 136 = .ok (.laload, 1) := by decide +kernel
theorem d_M_go_AJAJAJI_137 : decode b_M_go_AJAJAJI 137 = .ok (.aload_n 0, 1) := by decide +kernel
theorem d_M_go_AJAJAJI_138 : decode b_M_go_AJAJAJI 138 = .ok (.getfield 164, 3) := by decide +kernel
theorem d_M_go_AJAJAJI_141 : decode b_M_go_AJAJAJI 141 = .ok (.iconst 0, 1) := by decide +kernel
theorem d_M_go_AJAJAJI_142 : decode b_M_go_AJAJAJI 142 = .ok (.invokestatic 79, 3) := by decide +kernel
theorem d_M_go_AJAJAJI_145 : decode b_M_go_AJAJAJI 145 = .ok (.invokestatic 116, 3) := by decide +kernel
theorem d_M_go_AJAJAJI_148 : decode b_M_go_AJAJAJI 148 = .ok (.iconst (-1), 1) := by decide +kernel
theorem d_M_go_AJAJAJI_149 : decode b_M_go_AJAJAJI 149 = .ok (.if_icmp .ne 51, 3) := by decide +kernel
theorem d_M_go_AJAJAJI_152 : decode b_M_go_AJAJAJI 152 = .ok (.aload_n 1, 1) := by decide +kernel
theorem d_M_go_AJAJAJI_153 : decode b_M_go_AJAJAJI 153 = .ok (.iload 4, 2) := by decide +kernel
theorem d_M_go_AJAJAJI_155 : decode b_M_go_AJAJAJI 155 = .ok (.aload_n 0, 1) := by decide +kernel
theorem d_M_go_AJAJAJI_156 : decode b_M_go_AJAJAJI 156 = .ok (.getfield 164, 3) := by decide +kernel
theorem d_M_go_AJAJAJI_159 : decode b_M_go_AJAJAJI 159 = .ok (.iconst 0, 1) := by decide +kernel
theorem d_M_go_AJAJAJI_160 : decode b_M_go_AJAJAJI 160 = .ok (.invokestatic 79, 3) := by decide +kernel
theorem d_M_go_AJAJAJI_163 : decode b_M_go_AJAJAJI 163 = .ok (.aload_n 1, 1) := by decide +kernel
theorem d_M_go_AJAJAJI_164 : decode b_M_go_AJAJAJI 164 = .ok (.iload 4, 2) := by decide +kernel
theorem d_M_go_AJAJAJI_166 : decode b_M_go_AJAJAJI 166 = .ok (.laload, 1) := by decide +kernel
theorem d_M_go_AJAJAJI_167 : decode b_M_go_AJAJAJI 167 = .ok (.aload_n 0, 1) := by decide +kernel
theorem d_M_go_AJAJAJI_168 : decode b_M_go_AJAJAJI 168 = .ok (.getfield 164, 3) := by decide +kernel
theorem d_M_go_AJAJAJI_171 : decode b_M_go_AJAJAJI 171 = .ok (.invokestatic 123, 3) := by decide +kernel
theorem d_M_go_AJAJAJI_174 : decode b_M_go_AJAJAJI 174 = .ok (.lload 7, 2) := by decide +kernel
theorem d_M_go_AJAJAJI_176 : decode b_M_go_AJAJAJI 176 = .ok (.invokestatic 216, 3) := by decide +kernel
theorem d_M_go_AJAJAJI_179 : decode b_M_go_AJAJAJI 179 = .ok (.invokestatic 218, 3) := by decide +kernel
theorem d_M_go_AJAJAJI_182 : decode b_M_go_AJAJAJI 182 = .ok (.lastore, 1) := by decide +kernel
theorem d_M_go_AJAJAJI_183 : decode b_M_go_AJAJAJI 183 = .ok (.aload_n 2, 1) := by decide +kernel
theorem d_M_go_AJAJAJI_184 : decode b_M_go_AJAJAJI 184 = .ok (.iload 4, 2) := by decide +kernel
theorem d_M_go_AJAJAJI_186 : decode b_M_go_AJAJAJI 186 = .ok (.aload_n 2, 1) := by decide +kernel
theorem d_M_go_AJAJAJI_187 : decode b_M_go_AJAJAJI 187 = .ok (.iload 4, 2) := by decide +kernel
theorem d_M_go_AJAJAJI_189 : decode b_M_go_AJAJAJI 189 = .ok (.laload, 1) := by decide +kernel
theorem d_M_go_AJAJAJI_190 : decode b_M_go_AJAJAJI 190 = .ok (.lload 7, 2) := by decide +kernel
theorem d_M_go_AJAJAJI_192 : decode b_M_go_AJAJAJI 192 = .ok (.invokestatic 216, 3) := by decide +kernel
theorem d_M_go_AJAJAJI_195 : decode b_M_go_AJAJAJI 195 = .ok (.iconst 0, 1) := by decide +kernel
theorem d_M_go_AJAJAJI_196 : decode b_M_go_AJAJAJI 196 = .ok (.invokestatic 79, 3) := by decide +kernel
theorem d_M_go_AJAJAJI_199 : decode b_M_go_AJAJAJI 199 = .ok (.lastore, 1) := by decide +kernel
theorem d_M_go_AJAJAJI_200 : decode b_M_go_AJAJAJI 200 = .ok (.return_, 1) := by decide +kernel
def f_M_go_AJAJAJI_0 (S : MS) (x4 : Int32) : MS :=
  let v1 : Int64 := f_M_toDouble_J (m_dt S)
  let v2 : Int64 := f_M_toDouble_J (m_back S)
  let S3 : MS := u_m_u S (vp_updL (m_u S) x4.toNatClampNeg (f_M_add_JJ (m_u S x4.toNatClampNeg) (f_M_multiply_JJ (f_M_divide_JJ (m_fx S x4.toNatClampNeg) (f_M_toDouble_J (m_m S x4.toNatClampNeg))) v1)))
  let S4 : MS := u_m_x S3 (vp_updL (m_x S3) x4.toNatClampNeg (f_M_add_JJ (m_x S3 x4.toNatClampNeg) (f_M_multiply_JJ (m_u S3 x4.toNatClampNeg) v1)))
  if (f_M_order_JJ (m_x S4 x4.toNatClampNeg) (m_wall S4)) = (1 : Int32) then
    let S9 : MS := u_m_x S4 (vp_updL (m_x S4) x4.toNatClampNeg (f_M_subtract_JJ (m_wall S4) (f_M_multiply_JJ (f_M_subtract_JJ (m_x S4 x4.toNatClampNeg) (m_wall S4)) v2)))
    let S10 : MS := u_m_u S9 (vp_updL (m_u S9) x4.toNatClampNeg (f_M_turned_JI (f_M_multiply_JJ (m_u S9 x4.toNatClampNeg) v2) (0 : Int32)))
    S10
  else
    if (f_M_order_JJ (m_x S4 x4.toNatClampNeg) (f_M_turned_JI (m_wall S4) (0 : Int32))) = (-1 : Int32) then
      let S7 : MS := u_m_x S4 (vp_updL (m_x S4) x4.toNatClampNeg (f_M_subtract_JJ (f_M_turned_JI (m_wall S4) (0 : Int32)) (f_M_multiply_JJ (f_M_add_JJ (m_x S4 x4.toNatClampNeg) (m_wall S4)) v2)))
      let S8 : MS := u_m_u S7 (vp_updL (m_u S7) x4.toNatClampNeg (f_M_turned_JI (f_M_multiply_JJ (m_u S7 x4.toNatClampNeg) v2) (0 : Int32)))
      S8
    else
      S4
set_option maxHeartbeats 2000000 in
set_option maxRecDepth 100000 in
theorem c_M_go_AJAJAJI_0 (l : Launch) (dC : Nat → ClassId) (dI : Nat → Nat → Nat) (ad : Nat → Nat) (cJ cI : ClassId) (t0 t1 t2 : Nat) (S : MS) (x4 : Int32) (hk_x4 : vp_in x4 8) (sz : Nat) : hMv l y_M_go_AJAJAJI (gw y_M_go_AJAJAJI b_M_go_AJAJAJI 9 none) { frames := 6, cells := 0, slots := 0, locals := 168 } [.ref (ad 0), .ref (ad 1), .ref (ad 3), .ref (ad 7), .int x4] (dC, dI) classes (tysJI cJ cI) (hE_M t0 t1 t2 (mW ad cJ cI S) sz) (mW ad cJ cI S) sz (mW ad cJ cI (f_M_go_AJAJAJI_0 S x4)) := by
  refine Met.ofW (cc := b_M_go_AJAJAJI) (maxL := 9) (ret := none) (by decide) rfl ?_
  intro p e s m args below meth c s₁ B hml hv
  obtain ⟨rfl, hsz, hP, hK, hD0, hRT⟩ := hv
  have hx := B.exec
  have hb := B.bytes
  have hr := B.returns
  have hts := atoms_spec (ws := (gw y_M_go_AJAJAJI b_M_go_AJAJAJI 9 none)) B.pre
  have hown : s.vm.findClass "MotionLabModel" = some m.cls := findClass_of_methodNamed B.named
  have hlocks := B.notSynchronized
  subst hsz
  have hD := hD0.self (sz := s.heap.size)
  have hRT : RTA t0 t1 t2 (va_A (mW ad cJ cI S) s.heap.size) s s.heap := hRT
  generalize hAe : va_A (mW ad cJ cI S) s.heap.size = A at hD hRT
  have hA : ∀ q : Nat, s.heap.size ≤ q → A q := fun q h => by rw [← hAe]; exact Or.inr h
  have G : hG (dC, dI) classes A s.heap (mW ad cJ cI S) s.heap [] := ⟨hP, hD, va_S.rf⟩
  have hl := lv_entry ([.ref (ad 0), .ref (ad 1), .ref (ad 3), .ref (ad 7), .int x4]) (n := 9) (Nat.le_of_ble_eq_true rfl)
  rw [lg_entry_eq]
  generalize (lg_sl ([.ref (ad 0), .ref (ad 1), .ref (ad 3), .ref (ad 7), .int x4]) ++ List.replicate (9 - (lg_sl ([.ref (ad 0), .ref (ad 1), .ref (ad 3), .ref (ad 7), .int x4])).length) Slot.unset).toArray = ls at hl ⊢
  have hl : lv_has ls 9 [(0, .ref (ad 0)), (1, .ref (ad 1)), (2, .ref (ad 3)), (3, .ref (ad 7)), (4, .int x4)] := hl
  refine lv_aload_n hx hb d_M_go_AJAJAJI_0 rfl (lv_at hl 0 rfl) ?_
  refine va_get (D := (dC, dI)) (ci := 3) (v := .long (m_dt S)) (C := R_M) (T := F_M) (N := 21) hx hb hts (fun w h => gm (i_M w h)) hown hK G.1 0 rfl rfl 11 (by decide) (hts _ (gm tw_432)) (fun _ h9 => h9) rfl d_M_go_AJAJAJI_1 ?_
  refine pu_l (As := [.long (m_dt S)]) (rest := []) ⟨hx, hb, hml, hown, hts⟩ (c_M_toDouble_J l _ t0 t1 t2 (m_dt S)) (pr_pre (hx_R hRT G)) (gw_call (k := 1) hts tw_570 tw_571 tw_4 tw_572 (by decide +kernel) rfl rfl ⟨Nat.le_of_ble_eq_true rfl, Nat.le_of_ble_eq_true rfl⟩) rfl hl.1 rfl (Nat.le_of_ble_eq_true rfl) ⟨Nat.zero_le _, Nat.zero_le _⟩ d_M_go_AJAJAJI_4 ?_
  refine lv_topl (fun v1 e1 => ?_)
  refine lv_lstore (lv' := [(5, .long v1), (0, .ref (ad 0)), (1, .ref (ad 1)), (2, .ref (ad 3)), (3, .ref (ad 7)), (4, .int x4)]) hx hb d_M_go_AJAJAJI_7 hl (by decide) rfl (fun ls hl => ?_)
  refine lv_aload_n hx hb d_M_go_AJAJAJI_9 rfl (lv_at hl 1 rfl) ?_
  refine va_get (D := (dC, dI)) (ci := 3) (v := .long (m_back S)) (C := R_M) (T := F_M) (N := 21) hx hb hts (fun w h => gm (i_M w h)) hown hK G.1 0 rfl rfl 13 (by decide) (hts _ (gm tw_434)) (fun _ h9 => h9) rfl d_M_go_AJAJAJI_10 ?_
  refine pu_l (As := [.long (m_back S)]) (rest := []) ⟨hx, hb, hml, hown, hts⟩ (c_M_toDouble_J l _ t0 t1 t2 (m_back S)) (pr_pre (hx_R hRT G)) (gw_call (k := 1) hts tw_570 tw_571 tw_4 tw_572 (by decide +kernel) rfl rfl ⟨Nat.le_of_ble_eq_true rfl, Nat.le_of_ble_eq_true rfl⟩) rfl hl.1 rfl (Nat.le_of_ble_eq_true rfl) ⟨Nat.zero_le _, Nat.zero_le _⟩ d_M_go_AJAJAJI_13 ?_
  refine lv_topl (fun v2 e2 => ?_)
  refine lv_lstore (lv' := [(7, .long v2), (5, .long v1), (0, .ref (ad 0)), (1, .ref (ad 1)), (2, .ref (ad 3)), (3, .ref (ad 7)), (4, .int x4)]) hx hb d_M_go_AJAJAJI_16 hl (by decide) rfl (fun ls hl => ?_)
  refine lv_aload_n hx hb d_M_go_AJAJAJI_18 rfl (lv_at hl 4 rfl) ?_
  refine lv_iload hx hb d_M_go_AJAJAJI_19 (lv_at hl 6 rfl) ?_
  refine lv_aload_n hx hb d_M_go_AJAJAJI_21 rfl (lv_at hl 4 rfl) ?_
  refine lv_iload hx hb d_M_go_AJAJAJI_22 (lv_at hl 6 rfl) ?_
  refine va_lald hx hb hK G.1 3 0 rfl rfl hk_x4 d_M_go_AJAJAJI_24 ?_
  refine lv_aload_n hx hb d_M_go_AJAJAJI_25 rfl (lv_at hl 5 rfl) ?_
  refine lv_iload hx hb d_M_go_AJAJAJI_26 (lv_at hl 6 rfl) ?_
  refine va_lald hx hb hK G.1 7 0 rfl rfl hk_x4 d_M_go_AJAJAJI_28 ?_
  refine lv_aload_n hx hb d_M_go_AJAJAJI_29 rfl (lv_at hl 2 rfl) ?_
  refine va_get (D := (dC, dI)) (ci := 3) (v := .ref (ad 5)) (C := R_M) (T := F_M) (N := 21) hx hb hts (fun w h => gm (i_M w h)) hown hK G.1 0 rfl rfl 4 (by decide) (hts _ (gm tw_425)) (fun _ h9 => h9) rfl d_M_go_AJAJAJI_30 ?_
  refine lv_iload hx hb d_M_go_AJAJAJI_33 (lv_at hl 6 rfl) ?_
  refine va_lald hx hb hK G.1 5 0 rfl rfl hk_x4 d_M_go_AJAJAJI_35 ?_
  refine pu_l (As := [.long (m_m S x4.toNatClampNeg)]) (rest := [.long (m_fx S x4.toNatClampNeg), .long (m_u S x4.toNatClampNeg), .int x4, .ref (ad 3)]) ⟨hx, hb, hml, hown, hts⟩ (c_M_toDouble_J l _ t0 t1 t2 (m_m S x4.toNatClampNeg)) (pr_pre (hx_R hRT G)) (gw_call (k := 1) hts tw_570 tw_571 tw_4 tw_572 (by decide +kernel) rfl rfl ⟨Nat.le_of_ble_eq_true rfl, Nat.le_of_ble_eq_true rfl⟩) rfl hl.1 rfl (Nat.le_of_ble_eq_true rfl) ⟨Nat.zero_le _, Nat.zero_le _⟩ d_M_go_AJAJAJI_36 ?_
  refine pu_l (As := [.long (m_fx S x4.toNatClampNeg), .long (f_M_toDouble_J (m_m S x4.toNatClampNeg))]) (rest := [.long (m_u S x4.toNatClampNeg), .int x4, .ref (ad 3)]) ⟨hx, hb, hml, hown, hts⟩ (c_M_divide_JJ l _ t0 t1 t2 (m_fx S x4.toNatClampNeg) (f_M_toDouble_J (m_m S x4.toNatClampNeg))) (pr_pre (hx_R hRT G)) (gw_call (k := 2) hts tw_624 tw_625 tw_4 tw_626 (by decide +kernel) rfl rfl ⟨Nat.le_of_ble_eq_true rfl, Nat.le_of_ble_eq_true rfl⟩) rfl hl.1 rfl (Nat.le_of_ble_eq_true rfl) ⟨Nat.zero_le _, Nat.zero_le _⟩ d_M_go_AJAJAJI_39 ?_
  refine lv_lload hx hb d_M_go_AJAJAJI_42 (lv_at hl 1 rfl) ?_
  refine pu_l (As := [.long (f_M_divide_JJ (m_fx S x4.toNatClampNeg) (f_M_toDouble_J (m_m S x4.toNatClampNeg))), .long v1]) (rest := [.long (m_u S x4.toNatClampNeg), .int x4, .ref (ad 3)]) ⟨hx, hb, hml, hown, hts⟩ (c_M_multiply_JJ l _ t0 t1 t2 (f_M_divide_JJ (m_fx S x4.toNatClampNeg) (f_M_toDouble_J (m_m S x4.toNatClampNeg))) v1) (pr_pre (hx_R hRT G)) (gw_call (k := 2) hts tw_573 tw_574 tw_4 tw_575 (by decide +kernel) rfl rfl ⟨Nat.le_of_ble_eq_true rfl, Nat.le_of_ble_eq_true rfl⟩) rfl hl.1 rfl (Nat.le_of_ble_eq_true rfl) ⟨Nat.zero_le _, Nat.zero_le _⟩ d_M_go_AJAJAJI_44 ?_
  refine pu_l (As := [.long (m_u S x4.toNatClampNeg), .long (f_M_multiply_JJ (f_M_divide_JJ (m_fx S x4.toNatClampNeg) (f_M_toDouble_J (m_m S x4.toNatClampNeg))) v1)]) (rest := [.int x4, .ref (ad 3)]) ⟨hx, hb, hml, hown, hts⟩ (c_M_add_JJ l _ t0 t1 t2 (m_u S x4.toNatClampNeg) (f_M_multiply_JJ (f_M_divide_JJ (m_fx S x4.toNatClampNeg) (f_M_toDouble_J (m_m S x4.toNatClampNeg))) v1)) (pr_pre (hx_R hRT G)) (gw_call (k := 2) hts tw_611 tw_612 tw_4 tw_613 (by decide +kernel) rfl rfl ⟨Nat.le_of_ble_eq_true rfl, Nat.le_of_ble_eq_true rfl⟩) rfl hl.1 rfl (Nat.le_of_ble_eq_true rfl) ⟨Nat.zero_le _, Nat.zero_le _⟩ d_M_go_AJAJAJI_47 ?_
  obtain ⟨S3, e3⟩ : ∃ z : MS, z = u_m_u S (vp_updL (m_u S) x4.toNatClampNeg (f_M_add_JJ (m_u S x4.toNatClampNeg) (f_M_multiply_JJ (f_M_divide_JJ (m_fx S x4.toNatClampNeg) (f_M_toDouble_J (m_m S x4.toNatClampNeg))) v1))) := ⟨_, rfl⟩
  refine hg_last hx hb hK G 3 0 rfl rfl hk_x4 d_M_go_AJAJAJI_50 (mW ad cJ cI S3) (by rw [e3]; rfl) (fun H locs G => ?_)
  refine lv_aload_n hx hb d_M_go_AJAJAJI_51 rfl (lv_at hl 3 rfl) ?_
  refine lv_iload hx hb d_M_go_AJAJAJI_52 (lv_at hl 6 rfl) ?_
  refine lv_aload_n hx hb d_M_go_AJAJAJI_54 rfl (lv_at hl 3 rfl) ?_
  refine lv_iload hx hb d_M_go_AJAJAJI_55 (lv_at hl 6 rfl) ?_
  refine va_lald hx hb hK G.1 1 0 rfl rfl hk_x4 d_M_go_AJAJAJI_57 ?_
  refine lv_aload_n hx hb d_M_go_AJAJAJI_58 rfl (lv_at hl 4 rfl) ?_
  refine lv_iload hx hb d_M_go_AJAJAJI_59 (lv_at hl 6 rfl) ?_
  refine va_lald hx hb hK G.1 3 0 rfl rfl hk_x4 d_M_go_AJAJAJI_61 ?_
  refine lv_lload hx hb d_M_go_AJAJAJI_62 (lv_at hl 1 rfl) ?_
  refine pu_l (As := [.long (m_u S3 x4.toNatClampNeg), .long v1]) (rest := [.long (m_x S3 x4.toNatClampNeg), .int x4, .ref (ad 1)]) ⟨hx, hb, hml, hown, hts⟩ (c_M_multiply_JJ l _ t0 t1 t2 (m_u S3 x4.toNatClampNeg) v1) (pr_pre (hx_R hRT G)) (gw_call (k := 2) hts tw_573 tw_574 tw_4 tw_575 (by decide +kernel) rfl rfl ⟨Nat.le_of_ble_eq_true rfl, Nat.le_of_ble_eq_true rfl⟩) rfl hl.1 rfl (Nat.le_of_ble_eq_true rfl) ⟨Nat.zero_le _, Nat.zero_le _⟩ d_M_go_AJAJAJI_64 ?_
  refine pu_l (As := [.long (m_x S3 x4.toNatClampNeg), .long (f_M_multiply_JJ (m_u S3 x4.toNatClampNeg) v1)]) (rest := [.int x4, .ref (ad 1)]) ⟨hx, hb, hml, hown, hts⟩ (c_M_add_JJ l _ t0 t1 t2 (m_x S3 x4.toNatClampNeg) (f_M_multiply_JJ (m_u S3 x4.toNatClampNeg) v1)) (pr_pre (hx_R hRT G)) (gw_call (k := 2) hts tw_611 tw_612 tw_4 tw_613 (by decide +kernel) rfl rfl ⟨Nat.le_of_ble_eq_true rfl, Nat.le_of_ble_eq_true rfl⟩) rfl hl.1 rfl (Nat.le_of_ble_eq_true rfl) ⟨Nat.zero_le _, Nat.zero_le _⟩ d_M_go_AJAJAJI_67 ?_
  obtain ⟨S4, e4⟩ : ∃ z : MS, z = u_m_x S3 (vp_updL (m_x S3) x4.toNatClampNeg (f_M_add_JJ (m_x S3 x4.toNatClampNeg) (f_M_multiply_JJ (m_u S3 x4.toNatClampNeg) v1))) := ⟨_, rfl⟩
  refine hg_last hx hb hK G 1 0 rfl rfl hk_x4 d_M_go_AJAJAJI_70 (mW ad cJ cI S4) (by rw [e4]; rfl) (fun H locs G => ?_)
  refine lv_aload_n hx hb d_M_go_AJAJAJI_71 rfl (lv_at hl 3 rfl) ?_
  refine lv_iload hx hb d_M_go_AJAJAJI_72 (lv_at hl 6 rfl) ?_
  refine va_lald hx hb hK G.1 1 0 rfl rfl hk_x4 d_M_go_AJAJAJI_74 ?_
  refine lv_aload_n hx hb d_M_go_AJAJAJI_75 rfl (lv_at hl 2 rfl) ?_
  refine va_get (D := (dC, dI)) (ci := 3) (v := .long (m_wall S4)) (C := R_M) (T := F_M) (N := 21) hx hb hts (fun w h => gm (i_M w h)) hown hK G.1 0 rfl rfl 12 (by decide) (hts _ (gm tw_433)) (fun _ h9 => h9) rfl d_M_go_AJAJAJI_76 ?_
  refine pu_i (As := [.long (m_x S4 x4.toNatClampNeg), .long (m_wall S4)]) (rest := []) ⟨hx, hb, hml, hown, hts⟩ (c_M_order_JJ l _ (m_x S4 x4.toNatClampNeg) (m_wall S4)) pu_pre (gw_call (k := 2) hts tw_617 tw_618 tw_4 tw_619 (by decide +kernel) rfl rfl ⟨Nat.le_of_ble_eq_true rfl, Nat.le_of_ble_eq_true rfl⟩) rfl hl.1 rfl (Nat.le_of_ble_eq_true rfl) ⟨Nat.zero_le _, Nat.zero_le _⟩ d_M_go_AJAJAJI_79 ?_
  refine lv_iconst (v := 1) hx hb d_M_go_AJAJAJI_82 (by decide) ?_
  refine lv_icmp_ne (tgt := 133) hx hb d_M_go_AJAJAJI_83 (by decide) (fun c5 => ?_) (fun c5 => ?_)
  · refine lv_aload_n hx hb d_M_go_AJAJAJI_133 rfl (lv_at hl 3 rfl) ?_
    refine lv_iload hx hb d_M_go_AJAJAJI_134 (lv_at hl 6 rfl) ?_
    refine va_lald hx hb hK G.1 1 0 rfl rfl hk_x4 d_M_go_AJAJAJI_136 ?_
    refine lv_aload_n hx hb d_M_go_AJAJAJI_137 rfl (lv_at hl 2 rfl) ?_
    refine va_get (D := (dC, dI)) (ci := 3) (v := .long (m_wall S4)) (C := R_M) (T := F_M) (N := 21) hx hb hts (fun w h => gm (i_M w h)) hown hK G.1 0 rfl rfl 12 (by decide) (hts _ (gm tw_433)) (fun _ h9 => h9) rfl d_M_go_AJAJAJI_138 ?_
    refine lv_iconst (v := 0) hx hb d_M_go_AJAJAJI_141 (by decide) ?_
    refine pu_l (As := [.long (m_wall S4), .int (0 : Int32)]) (rest := [.long (m_x S4 x4.toNatClampNeg)]) ⟨hx, hb, hml, hown, hts⟩ (c_M_turned_JI l _ (m_wall S4) (0 : Int32)) pu_pre (gw_call (k := 2) hts tw_594 tw_595 tw_4 tw_596 (by decide +kernel) rfl rfl ⟨Nat.le_of_ble_eq_true rfl, Nat.le_of_ble_eq_true rfl⟩) rfl hl.1 rfl (Nat.le_of_ble_eq_true rfl) ⟨Nat.zero_le _, Nat.zero_le _⟩ d_M_go_AJAJAJI_142 ?_
    refine pu_i (As := [.long (m_x S4 x4.toNatClampNeg), .long (f_M_turned_JI (m_wall S4) (0 : Int32))]) (rest := []) ⟨hx, hb, hml, hown, hts⟩ (c_M_order_JJ l _ (m_x S4 x4.toNatClampNeg) (f_M_turned_JI (m_wall S4) (0 : Int32))) pu_pre (gw_call (k := 2) hts tw_617 tw_618 tw_4 tw_619 (by decide +kernel) rfl rfl ⟨Nat.le_of_ble_eq_true rfl, Nat.le_of_ble_eq_true rfl⟩) rfl hl.1 rfl (Nat.le_of_ble_eq_true rfl) ⟨Nat.zero_le _, Nat.zero_le _⟩ d_M_go_AJAJAJI_145 ?_
    refine lv_iconst (v := (-1)) hx hb d_M_go_AJAJAJI_148 (by decide) ?_
    refine lv_icmp_ne (tgt := 200) hx hb d_M_go_AJAJAJI_149 (by decide) (fun c6 => ?_) (fun c6 => ?_)
    · exact hg_vret hx hb hr hlocks hK hAe G (by have qe1 := e1.symm; have qe2 := e2.symm; have qe3 := e3.symm; have qe4 := e4.symm; subst qe1 qe2 qe3 qe4; unfold f_M_go_AJAJAJI_0; dsimp only; rw [if_neg c5, if_neg c6]) d_M_go_AJAJAJI_200
    · refine lv_aload_n hx hb d_M_go_AJAJAJI_152 rfl (lv_at hl 3 rfl) ?_
      refine lv_iload hx hb d_M_go_AJAJAJI_153 (lv_at hl 6 rfl) ?_
      refine lv_aload_n hx hb d_M_go_AJAJAJI_155 rfl (lv_at hl 2 rfl) ?_
      refine va_get (D := (dC, dI)) (ci := 3) (v := .long (m_wall S4)) (C := R_M) (T := F_M) (N := 21) hx hb hts (fun w h => gm (i_M w h)) hown hK G.1 0 rfl rfl 12 (by decide) (hts _ (gm tw_433)) (fun _ h9 => h9) rfl d_M_go_AJAJAJI_156 ?_
      refine lv_iconst (v := 0) hx hb d_M_go_AJAJAJI_159 (by decide) ?_
      refine pu_l (As := [.long (m_wall S4), .int (0 : Int32)]) (rest := [.int x4, .ref (ad 1)]) ⟨hx, hb, hml, hown, hts⟩ (c_M_turned_JI l _ (m_wall S4) (0 : Int32)) pu_pre (gw_call (k := 2) hts tw_594 tw_595 tw_4 tw_596 (by decide +kernel) rfl rfl ⟨Nat.le_of_ble_eq_true rfl, Nat.le_of_ble_eq_true rfl⟩) rfl hl.1 rfl (Nat.le_of_ble_eq_true rfl) ⟨Nat.zero_le _, Nat.zero_le _⟩ d_M_go_AJAJAJI_160 ?_
      refine lv_aload_n hx hb d_M_go_AJAJAJI_163 rfl (lv_at hl 3 rfl) ?_
      refine lv_iload hx hb d_M_go_AJAJAJI_164 (lv_at hl 6 rfl) ?_
      refine va_lald hx hb hK G.1 1 0 rfl rfl hk_x4 d_M_go_AJAJAJI_166 ?_
      refine lv_aload_n hx hb d_M_go_AJAJAJI_167 rfl (lv_at hl 2 rfl) ?_
      refine va_get (D := (dC, dI)) (ci := 3) (v := .long (m_wall S4)) (C := R_M) (T := F_M) (N := 21) hx hb hts (fun w h => gm (i_M w h)) hown hK G.1 0 rfl rfl 12 (by decide) (hts _ (gm tw_433)) (fun _ h9 => h9) rfl d_M_go_AJAJAJI_168 ?_
      refine pu_l (As := [.long (m_x S4 x4.toNatClampNeg), .long (m_wall S4)]) (rest := [.long (f_M_turned_JI (m_wall S4) (0 : Int32)), .int x4, .ref (ad 1)]) ⟨hx, hb, hml, hown, hts⟩ (c_M_add_JJ l _ t0 t1 t2 (m_x S4 x4.toNatClampNeg) (m_wall S4)) (pr_pre (hx_R hRT G)) (gw_call (k := 2) hts tw_611 tw_612 tw_4 tw_613 (by decide +kernel) rfl rfl ⟨Nat.le_of_ble_eq_true rfl, Nat.le_of_ble_eq_true rfl⟩) rfl hl.1 rfl (Nat.le_of_ble_eq_true rfl) ⟨Nat.zero_le _, Nat.zero_le _⟩ d_M_go_AJAJAJI_171 ?_
      refine lv_lload hx hb d_M_go_AJAJAJI_174 (lv_at hl 0 rfl) ?_
      refine pu_l (As := [.long (f_M_add_JJ (m_x S4 x4.toNatClampNeg) (m_wall S4)), .long v2]) (rest := [.long (f_M_turned_JI (m_wall S4) (0 : Int32)), .int x4, .ref (ad 1)]) ⟨hx, hb, hml, hown, hts⟩ (c_M_multiply_JJ l _ t0 t1 t2 (f_M_add_JJ (m_x S4 x4.toNatClampNeg) (m_wall S4)) v2) (pr_pre (hx_R hRT G)) (gw_call (k := 2) hts tw_573 tw_574 tw_4 tw_575 (by decide +kernel) rfl rfl ⟨Nat.le_of_ble_eq_true rfl, Nat.le_of_ble_eq_true rfl⟩) rfl hl.1 rfl (Nat.le_of_ble_eq_true rfl) ⟨Nat.zero_le _, Nat.zero_le _⟩ d_M_go_AJAJAJI_176 ?_
      refine pu_l (As := [.long (f_M_turned_JI (m_wall S4) (0 : Int32)), .long (f_M_multiply_JJ (f_M_add_JJ (m_x S4 x4.toNatClampNeg) (m_wall S4)) v2)]) (rest := [.int x4, .ref (ad 1)]) ⟨hx, hb, hml, hown, hts⟩ (c_M_subtract_JJ l _ t0 t1 t2 (f_M_turned_JI (m_wall S4) (0 : Int32)) (f_M_multiply_JJ (f_M_add_JJ (m_x S4 x4.toNatClampNeg) (m_wall S4)) v2)) (pr_pre (hx_R hRT G)) (gw_call (k := 2) hts tw_588 tw_589 tw_4 tw_590 (by decide +kernel) rfl rfl ⟨Nat.le_of_ble_eq_true rfl, Nat.le_of_ble_eq_true rfl⟩) rfl hl.1 rfl (Nat.le_of_ble_eq_true rfl) ⟨Nat.zero_le _, Nat.zero_le _⟩ d_M_go_AJAJAJI_179 ?_
      obtain ⟨S7, e7⟩ : ∃ z : MS, z = u_m_x S4 (vp_updL (m_x S4) x4.toNatClampNeg (f_M_subtract_JJ (f_M_turned_JI (m_wall S4) (0 : Int32)) (f_M_multiply_JJ (f_M_add_JJ (m_x S4 x4.toNatClampNeg) (m_wall S4)) v2))) := ⟨_, rfl⟩
      refine hg_last hx hb hK G 1 0 rfl rfl hk_x4 d_M_go_AJAJAJI_182 (mW ad cJ cI S7) (by rw [e7]; rfl) (fun H locs G => ?_)
      refine lv_aload_n hx hb d_M_go_AJAJAJI_183 rfl (lv_at hl 4 rfl) ?_
      refine lv_iload hx hb d_M_go_AJAJAJI_184 (lv_at hl 6 rfl) ?_
      refine lv_aload_n hx hb d_M_go_AJAJAJI_186 rfl (lv_at hl 4 rfl) ?_
      refine lv_iload hx hb d_M_go_AJAJAJI_187 (lv_at hl 6 rfl) ?_
      refine va_lald hx hb hK G.1 3 0 rfl rfl hk_x4 d_M_go_AJAJAJI_189 ?_
      refine lv_lload hx hb d_M_go_AJAJAJI_190 (lv_at hl 0 rfl) ?_
      refine pu_l (As := [.long (m_u S7 x4.toNatClampNeg), .long v2]) (rest := [.int x4, .ref (ad 3)]) ⟨hx, hb, hml, hown, hts⟩ (c_M_multiply_JJ l _ t0 t1 t2 (m_u S7 x4.toNatClampNeg) v2) (pr_pre (hx_R hRT G)) (gw_call (k := 2) hts tw_573 tw_574 tw_4 tw_575 (by decide +kernel) rfl rfl ⟨Nat.le_of_ble_eq_true rfl, Nat.le_of_ble_eq_true rfl⟩) rfl hl.1 rfl (Nat.le_of_ble_eq_true rfl) ⟨Nat.zero_le _, Nat.zero_le _⟩ d_M_go_AJAJAJI_192 ?_
      refine lv_iconst (v := 0) hx hb d_M_go_AJAJAJI_195 (by decide) ?_
      refine pu_l (As := [.long (f_M_multiply_JJ (m_u S7 x4.toNatClampNeg) v2), .int (0 : Int32)]) (rest := [.int x4, .ref (ad 3)]) ⟨hx, hb, hml, hown, hts⟩ (c_M_turned_JI l _ (f_M_multiply_JJ (m_u S7 x4.toNatClampNeg) v2) (0 : Int32)) pu_pre (gw_call (k := 2) hts tw_594 tw_595 tw_4 tw_596 (by decide +kernel) rfl rfl ⟨Nat.le_of_ble_eq_true rfl, Nat.le_of_ble_eq_true rfl⟩) rfl hl.1 rfl (Nat.le_of_ble_eq_true rfl) ⟨Nat.zero_le _, Nat.zero_le _⟩ d_M_go_AJAJAJI_196 ?_
      obtain ⟨S8, e8⟩ : ∃ z : MS, z = u_m_u S7 (vp_updL (m_u S7) x4.toNatClampNeg (f_M_turned_JI (f_M_multiply_JJ (m_u S7 x4.toNatClampNeg) v2) (0 : Int32))) := ⟨_, rfl⟩
      refine hg_last hx hb hK G 3 0 rfl rfl hk_x4 d_M_go_AJAJAJI_199 (mW ad cJ cI S8) (by rw [e8]; rfl) (fun H locs G => ?_)
      exact hg_vret hx hb hr hlocks hK hAe G (by have qe1 := e1.symm; have qe2 := e2.symm; have qe3 := e3.symm; have qe4 := e4.symm; have qe7 := e7.symm; have qe8 := e8.symm; subst qe1 qe2 qe3 qe4 qe7 qe8; unfold f_M_go_AJAJAJI_0; dsimp only; rw [if_neg c5, if_pos c6]) d_M_go_AJAJAJI_200
  · refine lv_aload_n hx hb d_M_go_AJAJAJI_86 rfl (lv_at hl 3 rfl) ?_
    refine lv_iload hx hb d_M_go_AJAJAJI_87 (lv_at hl 6 rfl) ?_
    refine lv_aload_n hx hb d_M_go_AJAJAJI_89 rfl (lv_at hl 2 rfl) ?_
    refine va_get (D := (dC, dI)) (ci := 3) (v := .long (m_wall S4)) (C := R_M) (T := F_M) (N := 21) hx hb hts (fun w h => gm (i_M w h)) hown hK G.1 0 rfl rfl 12 (by decide) (hts _ (gm tw_433)) (fun _ h9 => h9) rfl d_M_go_AJAJAJI_90 ?_
    refine lv_aload_n hx hb d_M_go_AJAJAJI_93 rfl (lv_at hl 3 rfl) ?_
    refine lv_iload hx hb d_M_go_AJAJAJI_94 (lv_at hl 6 rfl) ?_
    refine va_lald hx hb hK G.1 1 0 rfl rfl hk_x4 d_M_go_AJAJAJI_96 ?_
    refine lv_aload_n hx hb d_M_go_AJAJAJI_97 rfl (lv_at hl 2 rfl) ?_
    refine va_get (D := (dC, dI)) (ci := 3) (v := .long (m_wall S4)) (C := R_M) (T := F_M) (N := 21) hx hb hts (fun w h => gm (i_M w h)) hown hK G.1 0 rfl rfl 12 (by decide) (hts _ (gm tw_433)) (fun _ h9 => h9) rfl d_M_go_AJAJAJI_98 ?_
    refine pu_l (As := [.long (m_x S4 x4.toNatClampNeg), .long (m_wall S4)]) (rest := [.long (m_wall S4), .int x4, .ref (ad 1)]) ⟨hx, hb, hml, hown, hts⟩ (c_M_subtract_JJ l _ t0 t1 t2 (m_x S4 x4.toNatClampNeg) (m_wall S4)) (pr_pre (hx_R hRT G)) (gw_call (k := 2) hts tw_588 tw_589 tw_4 tw_590 (by decide +kernel) rfl rfl ⟨Nat.le_of_ble_eq_true rfl, Nat.le_of_ble_eq_true rfl⟩) rfl hl.1 rfl (Nat.le_of_ble_eq_true rfl) ⟨Nat.zero_le _, Nat.zero_le _⟩ d_M_go_AJAJAJI_101 ?_
    refine lv_lload hx hb d_M_go_AJAJAJI_104 (lv_at hl 0 rfl) ?_
    refine pu_l (As := [.long (f_M_subtract_JJ (m_x S4 x4.toNatClampNeg) (m_wall S4)), .long v2]) (rest := [.long (m_wall S4), .int x4, .ref (ad 1)]) ⟨hx, hb, hml, hown, hts⟩ (c_M_multiply_JJ l _ t0 t1 t2 (f_M_subtract_JJ (m_x S4 x4.toNatClampNeg) (m_wall S4)) v2) (pr_pre (hx_R hRT G)) (gw_call (k := 2) hts tw_573 tw_574 tw_4 tw_575 (by decide +kernel) rfl rfl ⟨Nat.le_of_ble_eq_true rfl, Nat.le_of_ble_eq_true rfl⟩) rfl hl.1 rfl (Nat.le_of_ble_eq_true rfl) ⟨Nat.zero_le _, Nat.zero_le _⟩ d_M_go_AJAJAJI_106 ?_
    refine pu_l (As := [.long (m_wall S4), .long (f_M_multiply_JJ (f_M_subtract_JJ (m_x S4 x4.toNatClampNeg) (m_wall S4)) v2)]) (rest := [.int x4, .ref (ad 1)]) ⟨hx, hb, hml, hown, hts⟩ (c_M_subtract_JJ l _ t0 t1 t2 (m_wall S4) (f_M_multiply_JJ (f_M_subtract_JJ (m_x S4 x4.toNatClampNeg) (m_wall S4)) v2)) (pr_pre (hx_R hRT G)) (gw_call (k := 2) hts tw_588 tw_589 tw_4 tw_590 (by decide +kernel) rfl rfl ⟨Nat.le_of_ble_eq_true rfl, Nat.le_of_ble_eq_true rfl⟩) rfl hl.1 rfl (Nat.le_of_ble_eq_true rfl) ⟨Nat.zero_le _, Nat.zero_le _⟩ d_M_go_AJAJAJI_109 ?_
    obtain ⟨S9, e9⟩ : ∃ z : MS, z = u_m_x S4 (vp_updL (m_x S4) x4.toNatClampNeg (f_M_subtract_JJ (m_wall S4) (f_M_multiply_JJ (f_M_subtract_JJ (m_x S4 x4.toNatClampNeg) (m_wall S4)) v2))) := ⟨_, rfl⟩
    refine hg_last hx hb hK G 1 0 rfl rfl hk_x4 d_M_go_AJAJAJI_112 (mW ad cJ cI S9) (by rw [e9]; rfl) (fun H locs G => ?_)
    refine lv_aload_n hx hb d_M_go_AJAJAJI_113 rfl (lv_at hl 4 rfl) ?_
    refine lv_iload hx hb d_M_go_AJAJAJI_114 (lv_at hl 6 rfl) ?_
    refine lv_aload_n hx hb d_M_go_AJAJAJI_116 rfl (lv_at hl 4 rfl) ?_
    refine lv_iload hx hb d_M_go_AJAJAJI_117 (lv_at hl 6 rfl) ?_
    refine va_lald hx hb hK G.1 3 0 rfl rfl hk_x4 d_M_go_AJAJAJI_119 ?_
    refine lv_lload hx hb d_M_go_AJAJAJI_120 (lv_at hl 0 rfl) ?_
    refine pu_l (As := [.long (m_u S9 x4.toNatClampNeg), .long v2]) (rest := [.int x4, .ref (ad 3)]) ⟨hx, hb, hml, hown, hts⟩ (c_M_multiply_JJ l _ t0 t1 t2 (m_u S9 x4.toNatClampNeg) v2) (pr_pre (hx_R hRT G)) (gw_call (k := 2) hts tw_573 tw_574 tw_4 tw_575 (by decide +kernel) rfl rfl ⟨Nat.le_of_ble_eq_true rfl, Nat.le_of_ble_eq_true rfl⟩) rfl hl.1 rfl (Nat.le_of_ble_eq_true rfl) ⟨Nat.zero_le _, Nat.zero_le _⟩ d_M_go_AJAJAJI_122 ?_
    refine lv_iconst (v := 0) hx hb d_M_go_AJAJAJI_125 (by decide) ?_
    refine pu_l (As := [.long (f_M_multiply_JJ (m_u S9 x4.toNatClampNeg) v2), .int (0 : Int32)]) (rest := [.int x4, .ref (ad 3)]) ⟨hx, hb, hml, hown, hts⟩ (c_M_turned_JI l _ (f_M_multiply_JJ (m_u S9 x4.toNatClampNeg) v2) (0 : Int32)) pu_pre (gw_call (k := 2) hts tw_594 tw_595 tw_4 tw_596 (by decide +kernel) rfl rfl ⟨Nat.le_of_ble_eq_true rfl, Nat.le_of_ble_eq_true rfl⟩) rfl hl.1 rfl (Nat.le_of_ble_eq_true rfl) ⟨Nat.zero_le _, Nat.zero_le _⟩ d_M_go_AJAJAJI_126 ?_
    obtain ⟨S10, e10⟩ : ∃ z : MS, z = u_m_u S9 (vp_updL (m_u S9) x4.toNatClampNeg (f_M_turned_JI (f_M_multiply_JJ (m_u S9 x4.toNatClampNeg) v2) (0 : Int32))) := ⟨_, rfl⟩
    refine hg_last hx hb hK G 3 0 rfl rfl hk_x4 d_M_go_AJAJAJI_129 (mW ad cJ cI S10) (by rw [e10]; rfl) (fun H locs G => ?_)
    refine lv_goto (tgt := 200) hx hb d_M_go_AJAJAJI_130 (by decide) ?_
    exact hg_vret hx hb hr hlocks hK hAe G (by have qe1 := e1.symm; have qe2 := e2.symm; have qe3 := e3.symm; have qe4 := e4.symm; have qe9 := e9.symm; have qe10 := e10.symm; subst qe1 qe2 qe3 qe4 qe9 qe10; unfold f_M_go_AJAJAJI_0; dsimp only; rw [if_pos c5]) d_M_go_AJAJAJI_200
-- ===== MotionLabModel.go([J[J[JI)V 1
def f_M_go_AJAJAJI_1 (S : MS) (x4 : Int32) : MS :=
  let v1 : Int64 := f_M_toDouble_J (m_dt S)
  let v2 : Int64 := f_M_toDouble_J (m_back S)
  let S3 : MS := u_m_v S (vp_updL (m_v S) x4.toNatClampNeg (f_M_add_JJ (m_v S x4.toNatClampNeg) (f_M_multiply_JJ (f_M_divide_JJ (m_fy S x4.toNatClampNeg) (f_M_toDouble_J (m_m S x4.toNatClampNeg))) v1)))
  let S4 : MS := u_m_y S3 (vp_updL (m_y S3) x4.toNatClampNeg (f_M_add_JJ (m_y S3 x4.toNatClampNeg) (f_M_multiply_JJ (m_v S3 x4.toNatClampNeg) v1)))
  if (f_M_order_JJ (m_y S4 x4.toNatClampNeg) (m_wall S4)) = (1 : Int32) then
    let S9 : MS := u_m_y S4 (vp_updL (m_y S4) x4.toNatClampNeg (f_M_subtract_JJ (m_wall S4) (f_M_multiply_JJ (f_M_subtract_JJ (m_y S4 x4.toNatClampNeg) (m_wall S4)) v2)))
    let S10 : MS := u_m_v S9 (vp_updL (m_v S9) x4.toNatClampNeg (f_M_turned_JI (f_M_multiply_JJ (m_v S9 x4.toNatClampNeg) v2) (0 : Int32)))
    S10
  else
    if (f_M_order_JJ (m_y S4 x4.toNatClampNeg) (f_M_turned_JI (m_wall S4) (0 : Int32))) = (-1 : Int32) then
      let S7 : MS := u_m_y S4 (vp_updL (m_y S4) x4.toNatClampNeg (f_M_subtract_JJ (f_M_turned_JI (m_wall S4) (0 : Int32)) (f_M_multiply_JJ (f_M_add_JJ (m_y S4 x4.toNatClampNeg) (m_wall S4)) v2)))
      let S8 : MS := u_m_v S7 (vp_updL (m_v S7) x4.toNatClampNeg (f_M_turned_JI (f_M_multiply_JJ (m_v S7 x4.toNatClampNeg) v2) (0 : Int32)))
      S8
    else
      S4
set_option maxHeartbeats 2000000 in
set_option maxRecDepth 100000 in
theorem c_M_go_AJAJAJI_1 (l : Launch) (dC : Nat → ClassId) (dI : Nat → Nat → Nat) (ad : Nat → Nat) (cJ cI : ClassId) (t0 t1 t2 : Nat) (S : MS) (x4 : Int32) (hk_x4 : vp_in x4 8) (sz : Nat) : hMv l y_M_go_AJAJAJI (gw y_M_go_AJAJAJI b_M_go_AJAJAJI 9 none) { frames := 6, cells := 0, slots := 0, locals := 168 } [.ref (ad 0), .ref (ad 2), .ref (ad 4), .ref (ad 8), .int x4] (dC, dI) classes (tysJI cJ cI) (hE_M t0 t1 t2 (mW ad cJ cI S) sz) (mW ad cJ cI S) sz (mW ad cJ cI (f_M_go_AJAJAJI_1 S x4)) := by
  refine Met.ofW (cc := b_M_go_AJAJAJI) (maxL := 9) (ret := none) (by decide) rfl ?_
  intro p e s m args below meth c s₁ B hml hv
  obtain ⟨rfl, hsz, hP, hK, hD0, hRT⟩ := hv
  have hx := B.exec
  have hb := B.bytes
  have hr := B.returns
  have hts := atoms_spec (ws := (gw y_M_go_AJAJAJI b_M_go_AJAJAJI 9 none)) B.pre
  have hown : s.vm.findClass "MotionLabModel" = some m.cls := findClass_of_methodNamed B.named
  have hlocks := B.notSynchronized
  subst hsz
  have hD := hD0.self (sz := s.heap.size)
  have hRT : RTA t0 t1 t2 (va_A (mW ad cJ cI S) s.heap.size) s s.heap := hRT
  generalize hAe : va_A (mW ad cJ cI S) s.heap.size = A at hD hRT
  have hA : ∀ q : Nat, s.heap.size ≤ q → A q := fun q h => by rw [← hAe]; exact Or.inr h
  have G : hG (dC, dI) classes A s.heap (mW ad cJ cI S) s.heap [] := ⟨hP, hD, va_S.rf⟩
  have hl := lv_entry ([.ref (ad 0), .ref (ad 2), .ref (ad 4), .ref (ad 8), .int x4]) (n := 9) (Nat.le_of_ble_eq_true rfl)
  rw [lg_entry_eq]
  generalize (lg_sl ([.ref (ad 0), .ref (ad 2), .ref (ad 4), .ref (ad 8), .int x4]) ++ List.replicate (9 - (lg_sl ([.ref (ad 0), .ref (ad 2), .ref (ad 4), .ref (ad 8), .int x4])).length) Slot.unset).toArray = ls at hl ⊢
  have hl : lv_has ls 9 [(0, .ref (ad 0)), (1, .ref (ad 2)), (2, .ref (ad 4)), (3, .ref (ad 8)), (4, .int x4)] := hl
  refine lv_aload_n hx hb d_M_go_AJAJAJI_0 rfl (lv_at hl 0 rfl) ?_
  refine va_get (D := (dC, dI)) (ci := 3) (v := .long (m_dt S)) (C := R_M) (T := F_M) (N := 21) hx hb hts (fun w h => gm (i_M w h)) hown hK G.1 0 rfl rfl 11 (by decide) (hts _ (gm tw_432)) (fun _ h9 => h9) rfl d_M_go_AJAJAJI_1 ?_
  refine pu_l (As := [.long (m_dt S)]) (rest := []) ⟨hx, hb, hml, hown, hts⟩ (c_M_toDouble_J l _ t0 t1 t2 (m_dt S)) (pr_pre (hx_R hRT G)) (gw_call (k := 1) hts tw_570 tw_571 tw_4 tw_572 (by decide +kernel) rfl rfl ⟨Nat.le_of_ble_eq_true rfl, Nat.le_of_ble_eq_true rfl⟩) rfl hl.1 rfl (Nat.le_of_ble_eq_true rfl) ⟨Nat.zero_le _, Nat.zero_le _⟩ d_M_go_AJAJAJI_4 ?_
  refine lv_topl (fun v1 e1 => ?_)
  refine lv_lstore (lv' := [(5, .long v1), (0, .ref (ad 0)), (1, .ref (ad 2)), (2, .ref (ad 4)), (3, .ref (ad 8)), (4, .int x4)]) hx hb d_M_go_AJAJAJI_7 hl (by decide) rfl (fun ls hl => ?_)
  refine lv_aload_n hx hb d_M_go_AJAJAJI_9 rfl (lv_at hl 1 rfl) ?_
  refine va_get (D := (dC, dI)) (ci := 3) (v := .long (m_back S)) (C := R_M) (T := F_M) (N := 21) hx hb hts (fun w h => gm (i_M w h)) hown hK G.1 0 rfl rfl 13 (by decide) (hts _ (gm tw_434)) (fun _ h9 => h9) rfl d_M_go_AJAJAJI_10 ?_
  refine pu_l (As := [.long (m_back S)]) (rest := []) ⟨hx, hb, hml, hown, hts⟩ (c_M_toDouble_J l _ t0 t1 t2 (m_back S)) (pr_pre (hx_R hRT G)) (gw_call (k := 1) hts tw_570 tw_571 tw_4 tw_572 (by decide +kernel) rfl rfl ⟨Nat.le_of_ble_eq_true rfl, Nat.le_of_ble_eq_true rfl⟩) rfl hl.1 rfl (Nat.le_of_ble_eq_true rfl) ⟨Nat.zero_le _, Nat.zero_le _⟩ d_M_go_AJAJAJI_13 ?_
  refine lv_topl (fun v2 e2 => ?_)
  refine lv_lstore (lv' := [(7, .long v2), (5, .long v1), (0, .ref (ad 0)), (1, .ref (ad 2)), (2, .ref (ad 4)), (3, .ref (ad 8)), (4, .int x4)]) hx hb d_M_go_AJAJAJI_16 hl (by decide) rfl (fun ls hl => ?_)
  refine lv_aload_n hx hb d_M_go_AJAJAJI_18 rfl (lv_at hl 4 rfl) ?_
  refine lv_iload hx hb d_M_go_AJAJAJI_19 (lv_at hl 6 rfl) ?_
  refine lv_aload_n hx hb d_M_go_AJAJAJI_21 rfl (lv_at hl 4 rfl) ?_
  refine lv_iload hx hb d_M_go_AJAJAJI_22 (lv_at hl 6 rfl) ?_
  refine va_lald hx hb hK G.1 4 0 rfl rfl hk_x4 d_M_go_AJAJAJI_24 ?_
  refine lv_aload_n hx hb d_M_go_AJAJAJI_25 rfl (lv_at hl 5 rfl) ?_
  refine lv_iload hx hb d_M_go_AJAJAJI_26 (lv_at hl 6 rfl) ?_
  refine va_lald hx hb hK G.1 8 0 rfl rfl hk_x4 d_M_go_AJAJAJI_28 ?_
  refine lv_aload_n hx hb d_M_go_AJAJAJI_29 rfl (lv_at hl 2 rfl) ?_
  refine va_get (D := (dC, dI)) (ci := 3) (v := .ref (ad 5)) (C := R_M) (T := F_M) (N := 21) hx hb hts (fun w h => gm (i_M w h)) hown hK G.1 0 rfl rfl 4 (by decide) (hts _ (gm tw_425)) (fun _ h9 => h9) rfl d_M_go_AJAJAJI_30 ?_
  refine lv_iload hx hb d_M_go_AJAJAJI_33 (lv_at hl 6 rfl) ?_
  refine va_lald hx hb hK G.1 5 0 rfl rfl hk_x4 d_M_go_AJAJAJI_35 ?_
  refine pu_l (As := [.long (m_m S x4.toNatClampNeg)]) (rest := [.long (m_fy S x4.toNatClampNeg), .long (m_v S x4.toNatClampNeg), .int x4, .ref (ad 4)]) ⟨hx, hb, hml, hown, hts⟩ (c_M_toDouble_J l _ t0 t1 t2 (m_m S x4.toNatClampNeg)) (pr_pre (hx_R hRT G)) (gw_call (k := 1) hts tw_570 tw_571 tw_4 tw_572 (by decide +kernel) rfl rfl ⟨Nat.le_of_ble_eq_true rfl, Nat.le_of_ble_eq_true rfl⟩) rfl hl.1 rfl (Nat.le_of_ble_eq_true rfl) ⟨Nat.zero_le _, Nat.zero_le _⟩ d_M_go_AJAJAJI_36 ?_
  refine pu_l (As := [.long (m_fy S x4.toNatClampNeg), .long (f_M_toDouble_J (m_m S x4.toNatClampNeg))]) (rest := [.long (m_v S x4.toNatClampNeg), .int x4, .ref (ad 4)]) ⟨hx, hb, hml, hown, hts⟩ (c_M_divide_JJ l _ t0 t1 t2 (m_fy S x4.toNatClampNeg) (f_M_toDouble_J (m_m S x4.toNatClampNeg))) (pr_pre (hx_R hRT G)) (gw_call (k := 2) hts tw_624 tw_625 tw_4 tw_626 (by decide +kernel) rfl rfl ⟨Nat.le_of_ble_eq_true rfl, Nat.le_of_ble_eq_true rfl⟩) rfl hl.1 rfl (Nat.le_of_ble_eq_true rfl) ⟨Nat.zero_le _, Nat.zero_le _⟩ d_M_go_AJAJAJI_39 ?_
  refine lv_lload hx hb d_M_go_AJAJAJI_42 (lv_at hl 1 rfl) ?_
  refine pu_l (As := [.long (f_M_divide_JJ (m_fy S x4.toNatClampNeg) (f_M_toDouble_J (m_m S x4.toNatClampNeg))), .long v1]) (rest := [.long (m_v S x4.toNatClampNeg), .int x4, .ref (ad 4)]) ⟨hx, hb, hml, hown, hts⟩ (c_M_multiply_JJ l _ t0 t1 t2 (f_M_divide_JJ (m_fy S x4.toNatClampNeg) (f_M_toDouble_J (m_m S x4.toNatClampNeg))) v1) (pr_pre (hx_R hRT G)) (gw_call (k := 2) hts tw_573 tw_574 tw_4 tw_575 (by decide +kernel) rfl rfl ⟨Nat.le_of_ble_eq_true rfl, Nat.le_of_ble_eq_true rfl⟩) rfl hl.1 rfl (Nat.le_of_ble_eq_true rfl) ⟨Nat.zero_le _, Nat.zero_le _⟩ d_M_go_AJAJAJI_44 ?_
  refine pu_l (As := [.long (m_v S x4.toNatClampNeg), .long (f_M_multiply_JJ (f_M_divide_JJ (m_fy S x4.toNatClampNeg) (f_M_toDouble_J (m_m S x4.toNatClampNeg))) v1)]) (rest := [.int x4, .ref (ad 4)]) ⟨hx, hb, hml, hown, hts⟩ (c_M_add_JJ l _ t0 t1 t2 (m_v S x4.toNatClampNeg) (f_M_multiply_JJ (f_M_divide_JJ (m_fy S x4.toNatClampNeg) (f_M_toDouble_J (m_m S x4.toNatClampNeg))) v1)) (pr_pre (hx_R hRT G)) (gw_call (k := 2) hts tw_611 tw_612 tw_4 tw_613 (by decide +kernel) rfl rfl ⟨Nat.le_of_ble_eq_true rfl, Nat.le_of_ble_eq_true rfl⟩) rfl hl.1 rfl (Nat.le_of_ble_eq_true rfl) ⟨Nat.zero_le _, Nat.zero_le _⟩ d_M_go_AJAJAJI_47 ?_
  obtain ⟨S3, e3⟩ : ∃ z : MS, z = u_m_v S (vp_updL (m_v S) x4.toNatClampNeg (f_M_add_JJ (m_v S x4.toNatClampNeg) (f_M_multiply_JJ (f_M_divide_JJ (m_fy S x4.toNatClampNeg) (f_M_toDouble_J (m_m S x4.toNatClampNeg))) v1))) := ⟨_, rfl⟩
  refine hg_last hx hb hK G 4 0 rfl rfl hk_x4 d_M_go_AJAJAJI_50 (mW ad cJ cI S3) (by rw [e3]; rfl) (fun H locs G => ?_)
  refine lv_aload_n hx hb d_M_go_AJAJAJI_51 rfl (lv_at hl 3 rfl) ?_
  refine lv_iload hx hb d_M_go_AJAJAJI_52 (lv_at hl 6 rfl) ?_
  refine lv_aload_n hx hb d_M_go_AJAJAJI_54 rfl (lv_at hl 3 rfl) ?_
  refine lv_iload hx hb d_M_go_AJAJAJI_55 (lv_at hl 6 rfl) ?_
  refine va_lald hx hb hK G.1 2 0 rfl rfl hk_x4 d_M_go_AJAJAJI_57 ?_
  refine lv_aload_n hx hb d_M_go_AJAJAJI_58 rfl (lv_at hl 4 rfl) ?_
  refine lv_iload hx hb d_M_go_AJAJAJI_59 (lv_at hl 6 rfl) ?_
  refine va_lald hx hb hK G.1 4 0 rfl rfl hk_x4 d_M_go_AJAJAJI_61 ?_
  refine lv_lload hx hb d_M_go_AJAJAJI_62 (lv_at hl 1 rfl) ?_
  refine pu_l (As := [.long (m_v S3 x4.toNatClampNeg), .long v1]) (rest := [.long (m_y S3 x4.toNatClampNeg), .int x4, .ref (ad 2)]) ⟨hx, hb, hml, hown, hts⟩ (c_M_multiply_JJ l _ t0 t1 t2 (m_v S3 x4.toNatClampNeg) v1) (pr_pre (hx_R hRT G)) (gw_call (k := 2) hts tw_573 tw_574 tw_4 tw_575 (by decide +kernel) rfl rfl ⟨Nat.le_of_ble_eq_true rfl, Nat.le_of_ble_eq_true rfl⟩) rfl hl.1 rfl (Nat.le_of_ble_eq_true rfl) ⟨Nat.zero_le _, Nat.zero_le _⟩ d_M_go_AJAJAJI_64 ?_
  refine pu_l (As := [.long (m_y S3 x4.toNatClampNeg), .long (f_M_multiply_JJ (m_v S3 x4.toNatClampNeg) v1)]) (rest := [.int x4, .ref (ad 2)]) ⟨hx, hb, hml, hown, hts⟩ (c_M_add_JJ l _ t0 t1 t2 (m_y S3 x4.toNatClampNeg) (f_M_multiply_JJ (m_v S3 x4.toNatClampNeg) v1)) (pr_pre (hx_R hRT G)) (gw_call (k := 2) hts tw_611 tw_612 tw_4 tw_613 (by decide +kernel) rfl rfl ⟨Nat.le_of_ble_eq_true rfl, Nat.le_of_ble_eq_true rfl⟩) rfl hl.1 rfl (Nat.le_of_ble_eq_true rfl) ⟨Nat.zero_le _, Nat.zero_le _⟩ d_M_go_AJAJAJI_67 ?_
  obtain ⟨S4, e4⟩ : ∃ z : MS, z = u_m_y S3 (vp_updL (m_y S3) x4.toNatClampNeg (f_M_add_JJ (m_y S3 x4.toNatClampNeg) (f_M_multiply_JJ (m_v S3 x4.toNatClampNeg) v1))) := ⟨_, rfl⟩
  refine hg_last hx hb hK G 2 0 rfl rfl hk_x4 d_M_go_AJAJAJI_70 (mW ad cJ cI S4) (by rw [e4]; rfl) (fun H locs G => ?_)
  refine lv_aload_n hx hb d_M_go_AJAJAJI_71 rfl (lv_at hl 3 rfl) ?_
  refine lv_iload hx hb d_M_go_AJAJAJI_72 (lv_at hl 6 rfl) ?_
  refine va_lald hx hb hK G.1 2 0 rfl rfl hk_x4 d_M_go_AJAJAJI_74 ?_
  refine lv_aload_n hx hb d_M_go_AJAJAJI_75 rfl (lv_at hl 2 rfl) ?_
  refine va_get (D := (dC, dI)) (ci := 3) (v := .long (m_wall S4)) (C := R_M) (T := F_M) (N := 21) hx hb hts (fun w h => gm (i_M w h)) hown hK G.1 0 rfl rfl 12 (by decide) (hts _ (gm tw_433)) (fun _ h9 => h9) rfl d_M_go_AJAJAJI_76 ?_
  refine pu_i (As := [.long (m_y S4 x4.toNatClampNeg), .long (m_wall S4)]) (rest := []) ⟨hx, hb, hml, hown, hts⟩ (c_M_order_JJ l _ (m_y S4 x4.toNatClampNeg) (m_wall S4)) pu_pre (gw_call (k := 2) hts tw_617 tw_618 tw_4 tw_619 (by decide +kernel) rfl rfl ⟨Nat.le_of_ble_eq_true rfl, Nat.le_of_ble_eq_true rfl⟩) rfl hl.1 rfl (Nat.le_of_ble_eq_true rfl) ⟨Nat.zero_le _, Nat.zero_le _⟩ d_M_go_AJAJAJI_79 ?_
  refine lv_iconst (v := 1) hx hb d_M_go_AJAJAJI_82 (by decide) ?_
  refine lv_icmp_ne (tgt := 133) hx hb d_M_go_AJAJAJI_83 (by decide) (fun c5 => ?_) (fun c5 => ?_)
  · refine lv_aload_n hx hb d_M_go_AJAJAJI_133 rfl (lv_at hl 3 rfl) ?_
    refine lv_iload hx hb d_M_go_AJAJAJI_134 (lv_at hl 6 rfl) ?_
    refine va_lald hx hb hK G.1 2 0 rfl rfl hk_x4 d_M_go_AJAJAJI_136 ?_
    refine lv_aload_n hx hb d_M_go_AJAJAJI_137 rfl (lv_at hl 2 rfl) ?_
    refine va_get (D := (dC, dI)) (ci := 3) (v := .long (m_wall S4)) (C := R_M) (T := F_M) (N := 21) hx hb hts (fun w h => gm (i_M w h)) hown hK G.1 0 rfl rfl 12 (by decide) (hts _ (gm tw_433)) (fun _ h9 => h9) rfl d_M_go_AJAJAJI_138 ?_
    refine lv_iconst (v := 0) hx hb d_M_go_AJAJAJI_141 (by decide) ?_
    refine pu_l (As := [.long (m_wall S4), .int (0 : Int32)]) (rest := [.long (m_y S4 x4.toNatClampNeg)]) ⟨hx, hb, hml, hown, hts⟩ (c_M_turned_JI l _ (m_wall S4) (0 : Int32)) pu_pre (gw_call (k := 2) hts tw_594 tw_595 tw_4 tw_596 (by decide +kernel) rfl rfl ⟨Nat.le_of_ble_eq_true rfl, Nat.le_of_ble_eq_true rfl⟩) rfl hl.1 rfl (Nat.le_of_ble_eq_true rfl) ⟨Nat.zero_le _, Nat.zero_le _⟩ d_M_go_AJAJAJI_142 ?_
    refine pu_i (As := [.long (m_y S4 x4.toNatClampNeg), .long (f_M_turned_JI (m_wall S4) (0 : Int32))]) (rest := []) ⟨hx, hb, hml, hown, hts⟩ (c_M_order_JJ l _ (m_y S4 x4.toNatClampNeg) (f_M_turned_JI (m_wall S4) (0 : Int32))) pu_pre (gw_call (k := 2) hts tw_617 tw_618 tw_4 tw_619 (by decide +kernel) rfl rfl ⟨Nat.le_of_ble_eq_true rfl, Nat.le_of_ble_eq_true rfl⟩) rfl hl.1 rfl (Nat.le_of_ble_eq_true rfl) ⟨Nat.zero_le _, Nat.zero_le _⟩ d_M_go_AJAJAJI_145 ?_
    refine lv_iconst (v := (-1)) hx hb d_M_go_AJAJAJI_148 (by decide) ?_
    refine lv_icmp_ne (tgt := 200) hx hb d_M_go_AJAJAJI_149 (by decide) (fun c6 => ?_) (fun c6 => ?_)
    · exact hg_vret hx hb hr hlocks hK hAe G (by have qe1 := e1.symm; have qe2 := e2.symm; have qe3 := e3.symm; have qe4 := e4.symm; subst qe1 qe2 qe3 qe4; unfold f_M_go_AJAJAJI_1; dsimp only; rw [if_neg c5, if_neg c6]) d_M_go_AJAJAJI_200
    · refine lv_aload_n hx hb d_M_go_AJAJAJI_152 rfl (lv_at hl 3 rfl) ?_
      refine lv_iload hx hb d_M_go_AJAJAJI_153 (lv_at hl 6 rfl) ?_
      refine lv_aload_n hx hb d_M_go_AJAJAJI_155 rfl (lv_at hl 2 rfl) ?_
      refine va_get (D := (dC, dI)) (ci := 3) (v := .long (m_wall S4)) (C := R_M) (T := F_M) (N := 21) hx hb hts (fun w h => gm (i_M w h)) hown hK G.1 0 rfl rfl 12 (by decide) (hts _ (gm tw_433)) (fun _ h9 => h9) rfl d_M_go_AJAJAJI_156 ?_
      refine lv_iconst (v := 0) hx hb d_M_go_AJAJAJI_159 (by decide) ?_
      refine pu_l (As := [.long (m_wall S4), .int (0 : Int32)]) (rest := [.int x4, .ref (ad 2)]) ⟨hx, hb, hml, hown, hts⟩ (c_M_turned_JI l _ (m_wall S4) (0 : Int32)) pu_pre (gw_call (k := 2) hts tw_594 tw_595 tw_4 tw_596 (by decide +kernel) rfl rfl ⟨Nat.le_of_ble_eq_true rfl, Nat.le_of_ble_eq_true rfl⟩) rfl hl.1 rfl (Nat.le_of_ble_eq_true rfl) ⟨Nat.zero_le _, Nat.zero_le _⟩ d_M_go_AJAJAJI_160 ?_
      refine lv_aload_n hx hb d_M_go_AJAJAJI_163 rfl (lv_at hl 3 rfl) ?_
      refine lv_iload hx hb d_M_go_AJAJAJI_164 (lv_at hl 6 rfl) ?_
      refine va_lald hx hb hK G.1 2 0 rfl rfl hk_x4 d_M_go_AJAJAJI_166 ?_
      refine lv_aload_n hx hb d_M_go_AJAJAJI_167 rfl (lv_at hl 2 rfl) ?_
      refine va_get (D := (dC, dI)) (ci := 3) (v := .long (m_wall S4)) (C := R_M) (T := F_M) (N := 21) hx hb hts (fun w h => gm (i_M w h)) hown hK G.1 0 rfl rfl 12 (by decide) (hts _ (gm tw_433)) (fun _ h9 => h9) rfl d_M_go_AJAJAJI_168 ?_
      refine pu_l (As := [.long (m_y S4 x4.toNatClampNeg), .long (m_wall S4)]) (rest := [.long (f_M_turned_JI (m_wall S4) (0 : Int32)), .int x4, .ref (ad 2)]) ⟨hx, hb, hml, hown, hts⟩ (c_M_add_JJ l _ t0 t1 t2 (m_y S4 x4.toNatClampNeg) (m_wall S4)) (pr_pre (hx_R hRT G)) (gw_call (k := 2) hts tw_611 tw_612 tw_4 tw_613 (by decide +kernel) rfl rfl ⟨Nat.le_of_ble_eq_true rfl, Nat.le_of_ble_eq_true rfl⟩) rfl hl.1 rfl (Nat.le_of_ble_eq_true rfl) ⟨Nat.zero_le _, Nat.zero_le _⟩ d_M_go_AJAJAJI_171 ?_
      refine lv_lload hx hb d_M_go_AJAJAJI_174 (lv_at hl 0 rfl) ?_
      refine pu_l (As := [.long (f_M_add_JJ (m_y S4 x4.toNatClampNeg) (m_wall S4)), .long v2]) (rest := [.long (f_M_turned_JI (m_wall S4) (0 : Int32)), .int x4, .ref (ad 2)]) ⟨hx, hb, hml, hown, hts⟩ (c_M_multiply_JJ l _ t0 t1 t2 (f_M_add_JJ (m_y S4 x4.toNatClampNeg) (m_wall S4)) v2) (pr_pre (hx_R hRT G)) (gw_call (k := 2) hts tw_573 tw_574 tw_4 tw_575 (by decide +kernel) rfl rfl ⟨Nat.le_of_ble_eq_true rfl, Nat.le_of_ble_eq_true rfl⟩) rfl hl.1 rfl (Nat.le_of_ble_eq_true rfl) ⟨Nat.zero_le _, Nat.zero_le _⟩ d_M_go_AJAJAJI_176 ?_
      refine pu_l (As := [.long (f_M_turned_JI (m_wall S4) (0 : Int32)), .long (f_M_multiply_JJ (f_M_add_JJ (m_y S4 x4.toNatClampNeg) (m_wall S4)) v2)]) (rest := [.int x4, .ref (ad 2)]) ⟨hx, hb, hml, hown, hts⟩ (c_M_subtract_JJ l _ t0 t1 t2 (f_M_turned_JI (m_wall S4) (0 : Int32)) (f_M_multiply_JJ (f_M_add_JJ (m_y S4 x4.toNatClampNeg) (m_wall S4)) v2)) (pr_pre (hx_R hRT G)) (gw_call (k := 2) hts tw_588 tw_589 tw_4 tw_590 (by decide +kernel) rfl rfl ⟨Nat.le_of_ble_eq_true rfl, Nat.le_of_ble_eq_true rfl⟩) rfl hl.1 rfl (Nat.le_of_ble_eq_true rfl) ⟨Nat.zero_le _, Nat.zero_le _⟩ d_M_go_AJAJAJI_179 ?_
      obtain ⟨S7, e7⟩ : ∃ z : MS, z = u_m_y S4 (vp_updL (m_y S4) x4.toNatClampNeg (f_M_subtract_JJ (f_M_turned_JI (m_wall S4) (0 : Int32)) (f_M_multiply_JJ (f_M_add_JJ (m_y S4 x4.toNatClampNeg) (m_wall S4)) v2))) := ⟨_, rfl⟩
      refine hg_last hx hb hK G 2 0 rfl rfl hk_x4 d_M_go_AJAJAJI_182 (mW ad cJ cI S7) (by rw [e7]; rfl) (fun H locs G => ?_)
      refine lv_aload_n hx hb d_M_go_AJAJAJI_183 rfl (lv_at hl 4 rfl) ?_
      refine lv_iload hx hb d_M_go_AJAJAJI_184 (lv_at hl 6 rfl) ?_
      refine lv_aload_n hx hb d_M_go_AJAJAJI_186 rfl (lv_at hl 4 rfl) ?_
      refine lv_iload hx hb d_M_go_AJAJAJI_187 (lv_at hl 6 rfl) ?_
      refine va_lald hx hb hK G.1 4 0 rfl rfl hk_x4 d_M_go_AJAJAJI_189 ?_
      refine lv_lload hx hb d_M_go_AJAJAJI_190 (lv_at hl 0 rfl) ?_
      refine pu_l (As := [.long (m_v S7 x4.toNatClampNeg), .long v2]) (rest := [.int x4, .ref (ad 4)]) ⟨hx, hb, hml, hown, hts⟩ (c_M_multiply_JJ l _ t0 t1 t2 (m_v S7 x4.toNatClampNeg) v2) (pr_pre (hx_R hRT G)) (gw_call (k := 2) hts tw_573 tw_574 tw_4 tw_575 (by decide +kernel) rfl rfl ⟨Nat.le_of_ble_eq_true rfl, Nat.le_of_ble_eq_true rfl⟩) rfl hl.1 rfl (Nat.le_of_ble_eq_true rfl) ⟨Nat.zero_le _, Nat.zero_le _⟩ d_M_go_AJAJAJI_192 ?_
      refine lv_iconst (v := 0) hx hb d_M_go_AJAJAJI_195 (by decide) ?_
      refine pu_l (As := [.long (f_M_multiply_JJ (m_v S7 x4.toNatClampNeg) v2), .int (0 : Int32)]) (rest := [.int x4, .ref (ad 4)]) ⟨hx, hb, hml, hown, hts⟩ (c_M_turned_JI l _ (f_M_multiply_JJ (m_v S7 x4.toNatClampNeg) v2) (0 : Int32)) pu_pre (gw_call (k := 2) hts tw_594 tw_595 tw_4 tw_596 (by decide +kernel) rfl rfl ⟨Nat.le_of_ble_eq_true rfl, Nat.le_of_ble_eq_true rfl⟩) rfl hl.1 rfl (Nat.le_of_ble_eq_true rfl) ⟨Nat.zero_le _, Nat.zero_le _⟩ d_M_go_AJAJAJI_196 ?_
      obtain ⟨S8, e8⟩ : ∃ z : MS, z = u_m_v S7 (vp_updL (m_v S7) x4.toNatClampNeg (f_M_turned_JI (f_M_multiply_JJ (m_v S7 x4.toNatClampNeg) v2) (0 : Int32))) := ⟨_, rfl⟩
      refine hg_last hx hb hK G 4 0 rfl rfl hk_x4 d_M_go_AJAJAJI_199 (mW ad cJ cI S8) (by rw [e8]; rfl) (fun H locs G => ?_)
      exact hg_vret hx hb hr hlocks hK hAe G (by have qe1 := e1.symm; have qe2 := e2.symm; have qe3 := e3.symm; have qe4 := e4.symm; have qe7 := e7.symm; have qe8 := e8.symm; subst qe1 qe2 qe3 qe4 qe7 qe8; unfold f_M_go_AJAJAJI_1; dsimp only; rw [if_neg c5, if_pos c6]) d_M_go_AJAJAJI_200
  · refine lv_aload_n hx hb d_M_go_AJAJAJI_86 rfl (lv_at hl 3 rfl) ?_
    refine lv_iload hx hb d_M_go_AJAJAJI_87 (lv_at hl 6 rfl) ?_
    refine lv_aload_n hx hb d_M_go_AJAJAJI_89 rfl (lv_at hl 2 rfl) ?_
    refine va_get (D := (dC, dI)) (ci := 3) (v := .long (m_wall S4)) (C := R_M) (T := F_M) (N := 21) hx hb hts (fun w h => gm (i_M w h)) hown hK G.1 0 rfl rfl 12 (by decide) (hts _ (gm tw_433)) (fun _ h9 => h9) rfl d_M_go_AJAJAJI_90 ?_
    refine lv_aload_n hx hb d_M_go_AJAJAJI_93 rfl (lv_at hl 3 rfl) ?_
    refine lv_iload hx hb d_M_go_AJAJAJI_94 (lv_at hl 6 rfl) ?_
    refine va_lald hx hb hK G.1 2 0 rfl rfl hk_x4 d_M_go_AJAJAJI_96 ?_
    refine lv_aload_n hx hb d_M_go_AJAJAJI_97 rfl (lv_at hl 2 rfl) ?_
    refine va_get (D := (dC, dI)) (ci := 3) (v := .long (m_wall S4)) (C := R_M) (T := F_M) (N := 21) hx hb hts (fun w h => gm (i_M w h)) hown hK G.1 0 rfl rfl 12 (by decide) (hts _ (gm tw_433)) (fun _ h9 => h9) rfl d_M_go_AJAJAJI_98 ?_
    refine pu_l (As := [.long (m_y S4 x4.toNatClampNeg), .long (m_wall S4)]) (rest := [.long (m_wall S4), .int x4, .ref (ad 2)]) ⟨hx, hb, hml, hown, hts⟩ (c_M_subtract_JJ l _ t0 t1 t2 (m_y S4 x4.toNatClampNeg) (m_wall S4)) (pr_pre (hx_R hRT G)) (gw_call (k := 2) hts tw_588 tw_589 tw_4 tw_590 (by decide +kernel) rfl rfl ⟨Nat.le_of_ble_eq_true rfl, Nat.le_of_ble_eq_true rfl⟩) rfl hl.1 rfl (Nat.le_of_ble_eq_true rfl) ⟨Nat.zero_le _, Nat.zero_le _⟩ d_M_go_AJAJAJI_101 ?_
    refine lv_lload hx hb d_M_go_AJAJAJI_104 (lv_at hl 0 rfl) ?_
    refine pu_l (As := [.long (f_M_subtract_JJ (m_y S4 x4.toNatClampNeg) (m_wall S4)), .long v2]) (rest := [.long (m_wall S4), .int x4, .ref (ad 2)]) ⟨hx, hb, hml, hown, hts⟩ (c_M_multiply_JJ l _ t0 t1 t2 (f_M_subtract_JJ (m_y S4 x4.toNatClampNeg) (m_wall S4)) v2) (pr_pre (hx_R hRT G)) (gw_call (k := 2) hts tw_573 tw_574 tw_4 tw_575 (by decide +kernel) rfl rfl ⟨Nat.le_of_ble_eq_true rfl, Nat.le_of_ble_eq_true rfl⟩) rfl hl.1 rfl (Nat.le_of_ble_eq_true rfl) ⟨Nat.zero_le _, Nat.zero_le _⟩ d_M_go_AJAJAJI_106 ?_
    refine pu_l (As := [.long (m_wall S4), .long (f_M_multiply_JJ (f_M_subtract_JJ (m_y S4 x4.toNatClampNeg) (m_wall S4)) v2)]) (rest := [.int x4, .ref (ad 2)]) ⟨hx, hb, hml, hown, hts⟩ (c_M_subtract_JJ l _ t0 t1 t2 (m_wall S4) (f_M_multiply_JJ (f_M_subtract_JJ (m_y S4 x4.toNatClampNeg) (m_wall S4)) v2)) (pr_pre (hx_R hRT G)) (gw_call (k := 2) hts tw_588 tw_589 tw_4 tw_590 (by decide +kernel) rfl rfl ⟨Nat.le_of_ble_eq_true rfl, Nat.le_of_ble_eq_true rfl⟩) rfl hl.1 rfl (Nat.le_of_ble_eq_true rfl) ⟨Nat.zero_le _, Nat.zero_le _⟩ d_M_go_AJAJAJI_109 ?_
    obtain ⟨S9, e9⟩ : ∃ z : MS, z = u_m_y S4 (vp_updL (m_y S4) x4.toNatClampNeg (f_M_subtract_JJ (m_wall S4) (f_M_multiply_JJ (f_M_subtract_JJ (m_y S4 x4.toNatClampNeg) (m_wall S4)) v2))) := ⟨_, rfl⟩
    refine hg_last hx hb hK G 2 0 rfl rfl hk_x4 d_M_go_AJAJAJI_112 (mW ad cJ cI S9) (by rw [e9]; rfl) (fun H locs G => ?_)
    refine lv_aload_n hx hb d_M_go_AJAJAJI_113 rfl (lv_at hl 4 rfl) ?_
    refine lv_iload hx hb d_M_go_AJAJAJI_114 (lv_at hl 6 rfl) ?_
    refine lv_aload_n hx hb d_M_go_AJAJAJI_116 rfl (lv_at hl 4 rfl) ?_
    refine lv_iload hx hb d_M_go_AJAJAJI_117 (lv_at hl 6 rfl) ?_
    refine va_lald hx hb hK G.1 4 0 rfl rfl hk_x4 d_M_go_AJAJAJI_119 ?_
    refine lv_lload hx hb d_M_go_AJAJAJI_120 (lv_at hl 0 rfl) ?_
    refine pu_l (As := [.long (m_v S9 x4.toNatClampNeg), .long v2]) (rest := [.int x4, .ref (ad 4)]) ⟨hx, hb, hml, hown, hts⟩ (c_M_multiply_JJ l _ t0 t1 t2 (m_v S9 x4.toNatClampNeg) v2) (pr_pre (hx_R hRT G)) (gw_call (k := 2) hts tw_573 tw_574 tw_4 tw_575 (by decide +kernel) rfl rfl ⟨Nat.le_of_ble_eq_true rfl, Nat.le_of_ble_eq_true rfl⟩) rfl hl.1 rfl (Nat.le_of_ble_eq_true rfl) ⟨Nat.zero_le _, Nat.zero_le _⟩ d_M_go_AJAJAJI_122 ?_
    refine lv_iconst (v := 0) hx hb d_M_go_AJAJAJI_125 (by decide) ?_
    refine pu_l (As := [.long (f_M_multiply_JJ (m_v S9 x4.toNatClampNeg) v2), .int (0 : Int32)]) (rest := [.int x4, .ref (ad 4)]) ⟨hx, hb, hml, hown, hts⟩ (c_M_turned_JI l _ (f_M_multiply_JJ (m_v S9 x4.toNatClampNeg) v2) (0 : Int32)) pu_pre (gw_call (k := 2) hts tw_594 tw_595 tw_4 tw_596 (by decide +kernel) rfl rfl ⟨Nat.le_of_ble_eq_true rfl, Nat.le_of_ble_eq_true rfl⟩) rfl hl.1 rfl (Nat.le_of_ble_eq_true rfl) ⟨Nat.zero_le _, Nat.zero_le _⟩ d_M_go_AJAJAJI_126 ?_
    obtain ⟨S10, e10⟩ : ∃ z : MS, z = u_m_v S9 (vp_updL (m_v S9) x4.toNatClampNeg (f_M_turned_JI (f_M_multiply_JJ (m_v S9 x4.toNatClampNeg) v2) (0 : Int32))) := ⟨_, rfl⟩
    refine hg_last hx hb hK G 4 0 rfl rfl hk_x4 d_M_go_AJAJAJI_129 (mW ad cJ cI S10) (by rw [e10]; rfl) (fun H locs G => ?_)
    refine lv_goto (tgt := 200) hx hb d_M_go_AJAJAJI_130 (by decide) ?_
    exact hg_vret hx hb hr hlocks hK hAe G (by have qe1 := e1.symm; have qe2 := e2.symm; have qe3 := e3.symm; have qe4 := e4.symm; have qe9 := e9.symm; have qe10 := e10.symm; subst qe1 qe2 qe3 qe4 qe9 qe10; unfold f_M_go_AJAJAJI_1; dsimp only; rw [if_pos c5]) d_M_go_AJAJAJI_200
