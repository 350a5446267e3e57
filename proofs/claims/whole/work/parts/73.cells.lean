-- ===== MotionLabModel.pull(I)V 
abbrev y_M_pull_I : MethodName := ⟨"MotionLabModel", "pull", "(I)V"⟩
abbrev b_M_pull_I : ByteArray := prog_6_method_40_code
theorem d_M_pull_I_0 : decode b_M_pull_I 0 = .ok (.aload_n 0, 1) := by decide +kernel
theorem d_M_pull_I_1 : decode b_M_pull_I 1 = .ok (.getfield 172, 3) := by decide +kernel
theorem d_M_pull_I_4 : decode b_M_pull_I 4 = .ok (.iload_n 1, 1) := by decide +kernel
theorem d_M_pull_I_5 : decode b_M_pull_I 5 = .ok (.iaload, 1) := by decide +kernel
theorem d_M_pull_I_6 : decode b_M_pull_I 6 = .ok (.istore_n 2, 1) := by decide +kernel
theorem d_M_pull_I_7 : decode b_M_pull_I 7 = .ok (.aload_n 0, 1) := by decide +kernel
theorem d_M_pull_I_8 : decode b_M_pull_I 8 = .ok (.getfield 175, 3) := by decide +kernel
theorem d_M_pull_I_11 : decode b_M_pull_I 11 = .ok (.iload_n 1, 1) := by decide +kernel
theorem d_M_pull_I_12 : decode b_M_pull_I 12 = .ok (.iaload, 1) := by decide +kernel
theorem d_M_pull_I_13 : decode b_M_pull_I 13 = .ok (.istore_n 3, 1) := by decide +kernel
theorem d_M_pull_I_14 : decode b_M_pull_I 14 = .ok (.aload_n 0, 1) := by decide +kernel
theorem d_M_pull_I_15 : decode b_M_pull_I 15 = .ok (.getfield 133, 3) := by decide +kernel
theorem d_M_pull_I_18 : decode b_M_pull_I 18 = .ok (.iload_n 3, 1) := by decide +kernel
theorem d_M_pull_I_19 : decode b_M_pull_I 19 = .ok (.laload, 1) := by decide +kernel
theorem d_M_pull_I_20 : decode b_M_pull_I 20 = .ok (.aload_n 0, 1) := by decide +kernel
theorem d_M_pull_I_21 : decode b_M_pull_I 21 = .ok (.getfield 133, 3) := by decide +kernel
theorem d_M_pull_I_24 : decode b_M_pull_I 24 = .ok (.iload_n 2, 1) := by decide +kernel
theorem d_M_pull_I_25 : decode b_M_pull_I 25 = .ok (.laload, 1) := by decide +kernel
theorem d_M_pull_I_26 : decode b_M_pull_I 26 = .ok (.invokestatic 218, 3) := by decide +kernel
theorem d_M_pull_I_29 : decode b_M_pull_I 29 = .ok (.lstore 4, 2) := by decide +kernel
theorem d_M_pull_I_31 : decode b_M_pull_I 31 = .ok (.aload_n 0, 1) := by decide +kernel
theorem d_M_pull_I_32 : decode b_M_pull_I 32 = .ok (.getfield 137, 3) := by decide +kernel
theorem d_M_pull_I_35 : decode b_M_pull_I 35 = .ok (.iload_n 3, 1) := by decide +kernel
theorem d_M_pull_I_36 : decode b_M_pull_I 36 = .ok (.laload, 1) := by decide +kernel
theorem d_M_pull_I_37 : decode b_M_pull_I 37 = .ok (.aload_n 0, 1) := by decide +kernel
theorem d_M_pull_I_38 : decode b_M_pull_I 38 = .ok (.getfield 137, 3) := by decide +kernel
theorem d_M_pull_I_41 : decode b_M_pull_I 41 = .ok (.iload_n 2, 1) := by decide +kernel
theorem d_M_pull_I_42 : decode b_M_pull_I 42 = .ok (.laload, 1) := by decide +kernel
theorem d_M_pull_I_43 : decode b_M_pull_I 43 = .ok (.invokestatic 218, 3) := by decide +kernel
theorem d_M_pull_I_46 : decode b_M_pull_I 46 = .ok (.lstore 6, 2) := by decide +kernel
theorem d_M_pull_I_48 : decode b_M_pull_I 48 = .ok (.aload_n 0, 1) := by decide +kernel
theorem d_M_pull_I_49 : decode b_M_pull_I 49 = .ok (.iload_n 1, 1) := by decide +kernel
theorem d_M_pull_I_50 : decode b_M_pull_I 50 = .ok (.invokevirtual 226, 3) := by decide +kernel
theorem d_M_pull_I_53 : decode b_M_pull_I 53 = .ok (.lstore 8, 2) := by decide +kernel
theorem d_M_pull_I_55 : decode b_M_pull_I 55 = .ok (.lload 8, 2) := by decide +kernel
theorem d_M_pull_I_57 : decode b_M_pull_I 57 = .ok (.lconst 0, 1) := by decide +kernel
theorem d_M_pull_I_58 : decode b_M_pull_I 58 = .ok (.invokestatic 116, 3) := by decide +kernel
theorem d_M_pull_I_61 : decode b_M_pull_I 61 = .ok (.iconst 1, 1) := by decide +kernel
theorem d_M_pull_I_62 : decode b_M_pull_I 62 = .ok (.if_icmp .eq 4, 3) := by decide +kernel
theorem d_M_pull_I_65 : decode b_M_pull_I 65 = .ok (.return_, 1) := by decide +kernel
theorem d_M_pull_I_66 : decode b_M_pull_I 66 = .ok (.aload_n 0, 1) := by decide +kernel
theorem d_M_pull_I_67 : decode b_M_pull_I 67 = .ok (.getfield 178, 3) := by decide +kernel
theorem d_M_pull_I_70 : decode b_M_pull_I 70 = .ok (.iload_n 1, 1) := by decide +kernel
theorem d_M_pull_I_71 : decode b_M_pull_I 71 = .ok (.laload, 1) := by decide +kernel
theorem d_M_pull_I_72 : decode b_M_pull_I 72 = .ok (.invokestatic 229, 3) := by decide +kernel
theorem d_M_pull_I_75 : decode b_M_pull_I 75 = .ok (.lload 8, 2) := by decide +kernel
theorem d_M_pull_I_77 : decode b_M_pull_I 77 = .ok (.aload_n 0, 1) := by decide +kernel
theorem d_M_pull_I_78 : decode b_M_pull_I 78 = .ok (.getfield 181, 3) := by decide +kernel
theorem d_M_pull_I_81 : decode b_M_pull_I 81 = .ok (.iload_n 1, 1) := by decide +kernel
theorem d_M_pull_I_82 : decode b_M_pull_I 82 = .ok (.laload, 1) := by decide +kernel
theorem d_M_pull_I_83 : decode b_M_pull_I 83 = .ok (.invokestatic 229, 3) := by decide +kernel
theorem d_M_pull_I_86 : decode b_M_pull_I 86 = .ok (.invokestatic 218, 3) := by decide +kernel
theorem d_M_pull_I_89 : decode b_M_pull_I 89 = .ok (.invokestatic 216, 3) := by decide +kernel
theorem d_M_pull_I_92 : decode b_M_pull_I 92 = .ok (.lload 8, 2) := by decide +kernel
theorem d_M_pull_I_94 : decode b_M_pull_I 94 = .ok (.invokestatic 121, 3) := by decide +kernel
theorem d_M_pull_I_97 : decode b_M_pull_I 97 = .ok (.lstore 10, 2) := by decide +kernel
theorem d_M_pull_I_99 : decode b_M_pull_I 99 = .ok (.aload_n 0, 1) := by decide +kernel
theorem d_M_pull_I_100 : decode b_M_pull_I 100 = .ok (.getfield 140, 3) := by decide +kernel
theorem d_M_pull_I_103 : decode b_M_pull_I 103 = .ok (.iload_n 3, 1) := by decide +kernel
theorem d_M_pull_I_104 : decode b_M_pull_I 104 = .ok (.laload, 1) := by decide +kernel
theorem d_M_pull_I_105 : decode b_M_pull_I 105 = .ok (.aload_n 0, 1) := by decide +kernel
theorem d_M_pull_I_106 : decode b_M_pull_I 106 = .ok (.getfield 140, 3) := by decide +kernel
theorem d_M_pull_I_109 : decode b_M_pull_I 109 = .ok (.iload_n 2, 1) := by decide +kernel
theorem d_M_pull_I_110 : decode b_M_pull_I 110 = .ok (.laload, 1) := by decide +kernel
theorem d_M_pull_I_111 : decode b_M_pull_I 111 = .ok (.invokestatic 218, 3) := by decide +kernel
theorem d_M_pull_I_114 : decode b_M_pull_I 114 = .ok (.lload 4, 2) := by decide +kernel
theorem d_M_pull_I_116 : decode b_M_pull_I 116 = .ok (.invokestatic 216, 3) := by decide +kernel
theorem d_M_pull_I_119 : decode b_M_pull_I 119 = .ok (.aload_n 0, 1) := by decide +kernel
theorem d_M_pull_I_120 : decode b_M_pull_I 120 = .ok (.getfield 143, 3) := by decide +kernel
theorem d_M_pull_I_123 : decode b_M_pull_I 123 = .ok (.iload_n 3, 1) := by decide +kernel
theorem d_M_pull_I_124 : decode b_M_pull_I 124 = .ok (.laload, 1) := by decide +kernel
theorem d_M_pull_I_125 : decode b_M_pull_I 125 = .ok (.aload_n 0, 1) := by decide +kernel
theorem d_M_pull_I_126 : decode b_M_pull_I 126 = .ok (.getfield 143, 3) := by decide +kernel
theorem d_M_pull_I_129 : decode b_M_pull_I 129 = .ok (.iload_n 2, 1) := by decide +kernel
theorem d_M_pull_I_130 : decode b_M_pull_I 130 = .ok (.laload, 1) := by decide +kernel
theorem d_M_pull_I_131 : decode b_M_pull_I 131 = .ok (.invokestatic 218, 3) := by decide +kernel
theorem d_M_pull_I_134 : decode b_M_pull_I 134 = .ok (.lload 6, 2) := by decide +kernel
theorem d_M_pull_I_136 : decode b_M_pull_I 136 = .ok (.invokestatic 216, 3) := by decide +kernel
theorem d_M_pull_I_139 : decode b_M_pull_I 139 = .ok (.invokestatic 123, 3) := by decide +kernel
theorem d_M_pull_I_142 : decode b_M_pull_I 142 = .ok (.lstore 12, 2) := by decide +kernel
theorem d_M_pull_I_144 : decode b_M_pull_I 144 = .ok (.lload 10, 2) := by decide +kernel
theorem d_M_pull_I_146 : decode b_M_pull_I 146 = .ok (.aload_n 0, 1) := by decide +kernel
theorem d_M_pull_I_147 : decode b_M_pull_I 147 = .ok (.getfield 184, 3) := by decide +kernel
theorem d_M_pull_I_150 : decode b_M_pull_I 150 = .ok (.iload_n 1, 1) := by decide +kernel
theorem d_M_pull_I_151 : decode b_M_pull_I 151 = .ok (.laload, 1) := by decide +kernel
theorem d_M_pull_I_152 : decode b_M_pull_I 152 = .ok (.invokestatic 229, 3) := by decide +kernel
theorem d_M_pull_I_155 : decode b_M_pull_I 155 = .ok (.lload 12, 2) := by decide +kernel
theorem d_M_pull_I_157 : decode b_M_pull_I 157 = .ok (.invokestatic 216, 3) := by decide +kernel
theorem d_M_pull_I_160 : decode b_M_pull_I 160 = .ok (.lload 8, 2) := by decide +kernel
theorem d_M_pull_I_162 : decode b_M_pull_I 162 = .ok (.lload 8, 2) := by decide +kernel
theorem d_M_pull_I_164 : decode b_M_pull_I 164 = .ok (.invokestatic 216, 3) := by decide +kernel
theorem d_M_pull_I_167 : decode b_M_pull_I 167 = .ok (.invokestatic 121, 3) := by decide +kernel
theorem d_M_pull_I_170 : decode b_M_pull_I 170 = .ok (.invokestatic 123, 3) := by decide +kernel
theorem d_M_pull_I_173 : decode b_M_pull_I 173 = .ok (.lstore 10, 2) := by decide +kernel
theorem d_M_pull_I_175 : decode b_M_pull_I 175 = .ok (.aload_n 0, 1) := by decide +kernel
theorem d_M_pull_I_176 : decode b_M_pull_I 176 = .ok (.getfield 152, 3) := by decide +kernel
theorem d_M_pull_I_179 : decode b_M_pull_I 179 = .ok (.iload_n 2, 1) := by decide +kernel
theorem d_M_pull_I_180 : decode b_M_pull_I 180 = .ok (.aload_n 0, 1) := by decide +kernel
theorem d_M_pull_I_181 : decode b_M_pull_I 181 = .ok (.getfield 152, 3) := by decide +kernel
theorem d_M_pull_I_184 : decode b_M_pull_I 184 = .ok (.iload_n 2, 1) := by decide +kernel
theorem d_M_pull_I_185 : decode b_M_pull_I 185 = .ok (.laload, 1) := by decide +kernel
theorem d_M_pull_I_186 : decode b_M_pull_I 186 = .ok (.lload 10, 2) := by decide +kernel
theorem d_M_pull_I_188 : decode b_M_pull_I 188 = .ok (.lload 4, 2) := by decide +kernel
theorem d_M_pull_I_190 : decode b_M_pull_I 190 = .ok (.invokestatic 216, 3) := by decide +kernel
theorem d_M_pull_I_193 : decode b_M_pull_I 193 = .ok (.invokestatic 123, 3) := by decide +kernel
theorem d_M_pull_I_196 : decode b_M_pull_I 196 = .ok (.lastore, 1) := by decide +kernel
theorem d_M_pull_I_197 : decode b_M_pull_I 197 = .ok (.aload_n 0, 1) := by decide +kernel
theorem d_M_pull_I_198 : decode b_M_pull_I 198 = .ok (.getfield 155, 3) := by decide +kernel
theorem d_M_pull_I_201 : decode b_M_pull_I 201 = .ok (.iload_n 2, 1) := by decide +kernel
theorem d_M_pull_I_202 : decode b_M_pull_I 202 = .ok (.aload_n 0, 1) := by decide +kernel
theorem d_M_pull_I_203 : decode b_M_pull_I 203 = .ok (.getfield 155, 3) := by decide +kernel
theorem d_M_pull_I_206 : decode b_M_pull_I 206 = .ok (.iload_n 2, 1) := by decide +kernel
theorem d_M_pull_I_207 : decode b_M_pull_I 207 = .ok (.laload, 1) := by decide +kernel
theorem d_M_pull_I_208 : decode b_M_pull_I 208 = .ok (.lload 10, 2) := by decide +kernel
theorem d_M_pull_I_210 : decode b_M_pull_I 210 = .ok (.lload 6, 2) := by decide +kernel
theorem d_M_pull_I_212 : decode b_M_pull_I 212 = .ok (.invokestatic 216, 3) := by decide +kernel
theorem d_M_pull_I_215 : decode b_M_pull_I 215 = .ok (.invokestatic 123, 3) := by decide +kernel
theorem d_M_pull_I_218 : decode b_M_pull_I 218 = .ok (.lastore, 1) := by decide +kernel
theorem d_M_pull_I_219 : decode b_M_pull_I 219 = .ok (.aload_n 0, 1) := by decide +kernel
theorem d_M_pull_I_220 : decode b_M_pull_I 220 = .ok (.getfield 152, 3) := by decide +kernel
theorem d_M_pull_I_223 : decode b_M_pull_I 223 = .ok (.iload_n 3, 1) := by decide +kernel
theorem d_M_pull_I_224 : decode b_M_pull_I 224 = .ok (.aload_n 0, 1) := by decide +kernel
theorem d_M_pull_I_225 : decode b_M_pull_I 225 = .ok (.getfield 152, 3) := by decide +kernel
theorem d_M_pull_I_228 : decode b_M_pull_I 228 = .ok (.iload_n 3, 1) := by decide +kernel
theorem d_M_pull_I_229 : decode b_M_pull_I 229 = .ok (.laload, 1) := by decide +kernel
theorem d_M_pull_I_230 : decode b_M_pull_I 230 = .ok (.lload 10, 2) := by decide +kernel
theorem d_M_pull_I_232 : decode b_M_pull_I 232 = .ok (.lload 4, 2) := by decide +kernel
theorem d_M_pull_I_234 : decode b_M_pull_I 234 = .ok (.invokestatic 216, 3) := by decide +kernel
theorem d_M_pull_I_237 : decode b_M_pull_I 237 = .ok (.invokestatic 218, 3) := by decide +kernel
theorem d_M_pull_I_240 : decode b_M_pull_I 240 = .ok (.lastore, 1) := by decide +kernel
theorem d_M_pull_I_241 : decode b_M_pull_I 241 = .ok (.aload_n 0, 1) := by decide +kernel
theorem d_M_pull_I_242 : decode b_M_pull_I 242 = .ok (.getfield 155, 3) := by decide +kernel
theorem d_M_pull_I_245 : decode b_M_pull_I 245 = .ok (.iload_n 3, 1) := by decide +kernel
theorem d_M_pull_I_246 : decode b_M_pull_I 246 = .ok (.aload_n 0, 1) := by decide +kernel
theorem d_M_pull_I_247 : decode b_M_pull_I 247 = .ok (.getfield 155, 3) := by decide +kernel
theorem d_M_pull_I_250 : decode b_M_pull_I 250 = .ok (.iload_n 3, 1) := by decide +kernel
theorem d_M_pull_I_251 : decode b_M_pull_I 251 = .ok (.laload, 1) := by decide +kernel
theorem d_M_pull_I_252 : decode b_M_pull_I 252 = .ok (.lload 10, 2) := by decide +kernel
theorem d_M_pull_I_254 : decode b_M_pull_I 254 = .ok (.lload 6, 2) := by decide +kernel
theorem d_M_pull_I_256 : decode b_M_pull_I 256 = .ok (.invokestatic 216, 3) := by decide +kernel
theorem d_M_pull_I_259 : decode b_M_pull_I 259 = .ok (.invokestatic 218, 3) := by decide +kernel
theorem d_M_pull_I_262 : decode b_M_pull_I 262 = .ok (.lastore, 1) := by decide +kernel
theorem d_M_pull_I_263 : decode b_M_pull_I 263 = .ok (.return_, 1) := by decide +kernel
def f_M_pull_I (S : MS) (x1 : Int32) : MS :=
  let v1 : Int32 := m_left S x1.toNatClampNeg
  let v2 : Int32 := m_right S x1.toNatClampNeg
  let v3 : Int64 := f_M_subtract_JJ (m_x S v2.toNatClampNeg) (m_x S v1.toNatClampNeg)
  let v4 : Int64 := f_M_subtract_JJ (m_y S v2.toNatClampNeg) (m_y S v1.toNatClampNeg)
  let v5 : Int64 := f_M_distance_I S x1
  if (f_M_order_JJ v5 (0 : Int64)) = (1 : Int32) then
    let v7 : Int64 := f_M_divide_JJ (f_M_multiply_JJ (f_M_toDouble_J (m_k S x1.toNatClampNeg)) (f_M_subtract_JJ v5 (f_M_toDouble_J (m_l S x1.toNatClampNeg)))) v5
    let v8 : Int64 := f_M_add_JJ (f_M_multiply_JJ (f_M_subtract_JJ (m_u S v2.toNatClampNeg) (m_u S v1.toNatClampNeg)) v3) (f_M_multiply_JJ (f_M_subtract_JJ (m_v S v2.toNatClampNeg) (m_v S v1.toNatClampNeg)) v4)
    let v9 : Int64 := f_M_add_JJ v7 (f_M_divide_JJ (f_M_multiply_JJ (f_M_toDouble_J (m_c S x1.toNatClampNeg)) v8) (f_M_multiply_JJ v5 v5))
    let S10 : MS := u_m_fx S (vp_updL (m_fx S) v1.toNatClampNeg (f_M_add_JJ (m_fx S v1.toNatClampNeg) (f_M_multiply_JJ v9 v3)))
    let S11 : MS := u_m_fy S10 (vp_updL (m_fy S10) v1.toNatClampNeg (f_M_add_JJ (m_fy S10 v1.toNatClampNeg) (f_M_multiply_JJ v9 v4)))
    let S12 : MS := u_m_fx S11 (vp_updL (m_fx S11) v2.toNatClampNeg (f_M_subtract_JJ (m_fx S11 v2.toNatClampNeg) (f_M_multiply_JJ v9 v3)))
    let S13 : MS := u_m_fy S12 (vp_updL (m_fy S12) v2.toNatClampNeg (f_M_subtract_JJ (m_fy S12 v2.toNatClampNeg) (f_M_multiply_JJ v9 v4)))
    S13
  else
    S
set_option maxHeartbeats 2000000 in
set_option maxRecDepth 100000 in
theorem c_M_pull_I (l : Launch) (dC : Nat → ClassId) (dI : Nat → Nat → Nat) (ad : Nat → Nat) (cJ cI : ClassId) (t0 t1 t2 : Nat) (S : MS) (x1 : Int32) (hk_x1 : vp_in x1 10) (hb1 : vp_in (m_left S x1.toNatClampNeg) 8) (hb2 : vp_in (m_right S x1.toNatClampNeg) 8) (sz : Nat) : hMv l y_M_pull_I (gw y_M_pull_I b_M_pull_I 14 none) { frames := 8, cells := 0, slots := 0, locals := 212 } [.ref (ad 0), .int x1] (dC, dI) classes (tysJI cJ cI) (hE_M t0 t1 t2 (mW ad cJ cI S) sz) (mW ad cJ cI S) sz (mW ad cJ cI (f_M_pull_I S x1)) := by
  refine Met.ofW (cc := b_M_pull_I) (maxL := 14) (ret := none) (by decide) rfl ?_
  intro p e s m args below meth c s₁ B hml hv
  obtain ⟨rfl, hsz, hP, hK, hD0, hRT⟩ := hv
  have hx := B.exec
  have hb := B.bytes
  have hr := B.returns
  have hts := atoms_spec (ws := (gw y_M_pull_I b_M_pull_I 14 none)) B.pre
  have hown : s.vm.findClass "MotionLabModel" = some m.cls := findClass_of_methodNamed B.named
  have hlocks := B.notSynchronized
  subst hsz
  have hD := hD0.self (sz := s.heap.size)
  have hRT : RTA t0 t1 t2 (va_A (mW ad cJ cI S) s.heap.size) s s.heap := hRT
  generalize hAe : va_A (mW ad cJ cI S) s.heap.size = A at hD hRT
  have hA : ∀ q : Nat, s.heap.size ≤ q → A q := fun q h => by rw [← hAe]; exact Or.inr h
  have G : hG (dC, dI) classes A s.heap (mW ad cJ cI S) s.heap [] := ⟨hP, hD, va_S.rf⟩
  have hl := lv_entry ([.ref (ad 0), .int x1]) (n := 14) (Nat.le_of_ble_eq_true rfl)
  rw [lg_entry_eq]
  generalize (lg_sl ([.ref (ad 0), .int x1]) ++ List.replicate (14 - (lg_sl ([.ref (ad 0), .int x1])).length) Slot.unset).toArray = ls at hl ⊢
  have hl : lv_has ls 14 [(0, .ref (ad 0)), (1, .int x1)] := hl
  refine lv_aload_n hx hb d_M_pull_I_0 rfl (lv_at hl 0 rfl) ?_
  refine va_get (D := (dC, dI)) (ci := 3) (v := .ref (ad 9)) (C := R_M) (T := F_M) (N := 21) hx hb hts (fun w h => gm (i_M w h)) hown hK G.1 0 rfl rfl 14 (by decide) (hts _ (gm tw_435)) (fun _ h9 => h9) rfl d_M_pull_I_1 ?_
  refine lv_iload_n hx hb d_M_pull_I_4 rfl (lv_at hl 1 rfl) ?_
  refine va_iald hx hb hK G.1 9 1 rfl rfl hk_x1 d_M_pull_I_5 ?_
  refine lv_topi (fun v1 e1 => ?_)
  refine lv_istore_n (lv' := [(2, .int v1), (0, .ref (ad 0)), (1, .int x1)]) hx hb d_M_pull_I_6 rfl hl (by decide) rfl (fun ls hl => ?_)
  refine lv_aload_n hx hb d_M_pull_I_7 rfl (lv_at hl 1 rfl) ?_
  refine va_get (D := (dC, dI)) (ci := 3) (v := .ref (ad 10)) (C := R_M) (T := F_M) (N := 21) hx hb hts (fun w h => gm (i_M w h)) hown hK G.1 0 rfl rfl 15 (by decide) (hts _ (gm tw_436)) (fun _ h9 => h9) rfl d_M_pull_I_8 ?_
  refine lv_iload_n hx hb d_M_pull_I_11 rfl (lv_at hl 2 rfl) ?_
  refine va_iald hx hb hK G.1 10 1 rfl rfl hk_x1 d_M_pull_I_12 ?_
  refine lv_topi (fun v2 e2 => ?_)
  refine lv_istore_n (lv' := [(3, .int v2), (2, .int v1), (0, .ref (ad 0)), (1, .int x1)]) hx hb d_M_pull_I_13 rfl hl (by decide) rfl (fun ls hl => ?_)
  refine lv_aload_n hx hb d_M_pull_I_14 rfl (lv_at hl 2 rfl) ?_
  refine va_get (D := (dC, dI)) (ci := 3) (v := .ref (ad 1)) (C := R_M) (T := F_M) (N := 21) hx hb hts (fun w h => gm (i_M w h)) hown hK G.1 0 rfl rfl 0 (by decide) (hts _ (gm tw_421)) (fun _ h9 => h9) rfl d_M_pull_I_15 ?_
  refine lv_iload_n hx hb d_M_pull_I_18 rfl (lv_at hl 0 rfl) ?_
  refine va_lald hx hb hK G.1 1 0 rfl rfl (by rw [e2]; exact hb2) d_M_pull_I_19 ?_
  refine lv_aload_n hx hb d_M_pull_I_20 rfl (lv_at hl 2 rfl) ?_
  refine va_get (D := (dC, dI)) (ci := 3) (v := .ref (ad 1)) (C := R_M) (T := F_M) (N := 21) hx hb hts (fun w h => gm (i_M w h)) hown hK G.1 0 rfl rfl 0 (by decide) (hts _ (gm tw_421)) (fun _ h9 => h9) rfl d_M_pull_I_21 ?_
  refine lv_iload_n hx hb d_M_pull_I_24 rfl (lv_at hl 1 rfl) ?_
  refine va_lald hx hb hK G.1 1 0 rfl rfl (by rw [e1]; exact hb1) d_M_pull_I_25 ?_
  refine pu_l (As := [.long (m_x S v2.toNatClampNeg), .long (m_x S v1.toNatClampNeg)]) (rest := []) ⟨hx, hb, hml, hown, hts⟩ (c_M_subtract_JJ l _ t0 t1 t2 (m_x S v2.toNatClampNeg) (m_x S v1.toNatClampNeg)) (pr_pre (hx_R hRT G)) (gw_call (k := 2) hts tw_588 tw_589 tw_4 tw_590 (by decide +kernel) rfl rfl ⟨Nat.le_of_ble_eq_true rfl, Nat.le_of_ble_eq_true rfl⟩) rfl hl.1 rfl (Nat.le_of_ble_eq_true rfl) ⟨Nat.zero_le _, Nat.zero_le _⟩ d_M_pull_I_26 ?_
  refine lv_topl (fun v3 e3 => ?_)
  refine lv_lstore (lv' := [(4, .long v3), (3, .int v2), (2, .int v1), (0, .ref (ad 0)), (1, .int x1)]) hx hb d_M_pull_I_29 hl (by decide) rfl (fun ls hl => ?_)
  refine lv_aload_n hx hb d_M_pull_I_31 rfl (lv_at hl 3 rfl) ?_
  refine va_get (D := (dC, dI)) (ci := 3) (v := .ref (ad 2)) (C := R_M) (T := F_M) (N := 21) hx hb hts (fun w h => gm (i_M w h)) hown hK G.1 0 rfl rfl 1 (by decide) (hts _ (gm tw_422)) (fun _ h9 => h9) rfl d_M_pull_I_32 ?_
  refine lv_iload_n hx hb d_M_pull_I_35 rfl (lv_at hl 1 rfl) ?_
  refine va_lald hx hb hK G.1 2 0 rfl rfl (by rw [e2]; exact hb2) d_M_pull_I_36 ?_
  refine lv_aload_n hx hb d_M_pull_I_37 rfl (lv_at hl 3 rfl) ?_
  refine va_get (D := (dC, dI)) (ci := 3) (v := .ref (ad 2)) (C := R_M) (T := F_M) (N := 21) hx hb hts (fun w h => gm (i_M w h)) hown hK G.1 0 rfl rfl 1 (by decide) (hts _ (gm tw_422)) (fun _ h9 => h9) rfl d_M_pull_I_38 ?_
  refine lv_iload_n hx hb d_M_pull_I_41 rfl (lv_at hl 2 rfl) ?_
  refine va_lald hx hb hK G.1 2 0 rfl rfl (by rw [e1]; exact hb1) d_M_pull_I_42 ?_
  refine pu_l (As := [.long (m_y S v2.toNatClampNeg), .long (m_y S v1.toNatClampNeg)]) (rest := []) ⟨hx, hb, hml, hown, hts⟩ (c_M_subtract_JJ l _ t0 t1 t2 (m_y S v2.toNatClampNeg) (m_y S v1.toNatClampNeg)) (pr_pre (hx_R hRT G)) (gw_call (k := 2) hts tw_588 tw_589 tw_4 tw_590 (by decide +kernel) rfl rfl ⟨Nat.le_of_ble_eq_true rfl, Nat.le_of_ble_eq_true rfl⟩) rfl hl.1 rfl (Nat.le_of_ble_eq_true rfl) ⟨Nat.zero_le _, Nat.zero_le _⟩ d_M_pull_I_43 ?_
  refine lv_topl (fun v4 e4 => ?_)
  refine lv_lstore (lv' := [(6, .long v4), (4, .long v3), (3, .int v2), (2, .int v1), (0, .ref (ad 0)), (1, .int x1)]) hx hb d_M_pull_I_46 hl (by decide) rfl (fun ls hl => ?_)
  refine lv_aload_n hx hb d_M_pull_I_48 rfl (lv_at hl 4 rfl) ?_
  refine lv_iload_n hx hb d_M_pull_I_49 rfl (lv_at hl 5 rfl) ?_
  refine hg_cl (As := [.int x1]) (rest := []) ⟨hx, hb, hml, hown, hts⟩ (c_M_distance_I l dC dI ad cJ cI t0 t1 t2 S x1 hk_x1 hb1 hb2 _) (gw_callV (k := 1) hts tw_604 tw_606 tp_11 tw_4 tw_607 (by decide +kernel) rfl rfl ⟨Nat.le_of_ble_eq_true rfl, Nat.le_of_ble_eq_true rfl⟩) hK G hA (hx_M hRT G hA) 3 0 rfl rfl rfl hl.1 rfl (Nat.le_of_ble_eq_true rfl) ⟨Nat.zero_le _, Nat.zero_le _⟩ d_M_pull_I_50 (fun H locs G => ?_)
  refine lv_topl (fun v5 e5 => ?_)
  refine lv_lstore (lv' := [(8, .long v5), (6, .long v4), (4, .long v3), (3, .int v2), (2, .int v1), (0, .ref (ad 0)), (1, .int x1)]) hx hb d_M_pull_I_53 hl (by decide) rfl (fun ls hl => ?_)
  refine lv_lload hx hb d_M_pull_I_55 (lv_at hl 0 rfl) ?_
  refine lv_lconst (v := (0 : Int64)) hx hb d_M_pull_I_57 (by decide) ?_
  refine pu_i (As := [.long v5, .long (0 : Int64)]) (rest := []) ⟨hx, hb, hml, hown, hts⟩ (c_M_order_JJ l _ v5 (0 : Int64)) pu_pre (gw_call (k := 2) hts tw_617 tw_618 tw_4 tw_619 (by decide +kernel) rfl rfl ⟨Nat.le_of_ble_eq_true rfl, Nat.le_of_ble_eq_true rfl⟩) rfl hl.1 rfl (Nat.le_of_ble_eq_true rfl) ⟨Nat.zero_le _, Nat.zero_le _⟩ d_M_pull_I_58 ?_
  refine lv_iconst (v := 1) hx hb d_M_pull_I_61 (by decide) ?_
  refine lv_icmp_eq (tgt := 66) hx hb d_M_pull_I_62 (by decide) (fun c6 => ?_) (fun c6 => ?_)
  · refine lv_aload_n hx hb d_M_pull_I_66 rfl (lv_at hl 5 rfl) ?_
    refine va_get (D := (dC, dI)) (ci := 3) (v := .ref (ad 11)) (C := R_M) (T := F_M) (N := 21) hx hb hts (fun w h => gm (i_M w h)) hown hK G.1 0 rfl rfl 16 (by decide) (hts _ (gm tw_437)) (fun _ h9 => h9) rfl d_M_pull_I_67 ?_
    refine lv_iload_n hx hb d_M_pull_I_70 rfl (lv_at hl 6 rfl) ?_
    refine va_lald hx hb hK G.1 11 0 rfl rfl hk_x1 d_M_pull_I_71 ?_
    refine pu_l (As := [.long (m_k S x1.toNatClampNeg)]) (rest := []) ⟨hx, hb, hml, hown, hts⟩ (c_M_toDouble_J l _ t0 t1 t2 (m_k S x1.toNatClampNeg)) (pr_pre (hx_R hRT G)) (gw_call (k := 1) hts tw_570 tw_571 tw_4 tw_572 (by decide +kernel) rfl rfl ⟨Nat.le_of_ble_eq_true rfl, Nat.le_of_ble_eq_true rfl⟩) rfl hl.1 rfl (Nat.le_of_ble_eq_true rfl) ⟨Nat.zero_le _, Nat.zero_le _⟩ d_M_pull_I_72 ?_
    refine lv_lload hx hb d_M_pull_I_75 (lv_at hl 0 rfl) ?_
    refine lv_aload_n hx hb d_M_pull_I_77 rfl (lv_at hl 5 rfl) ?_
    refine va_get (D := (dC, dI)) (ci := 3) (v := .ref (ad 12)) (C := R_M) (T := F_M) (N := 21) hx hb hts (fun w h => gm (i_M w h)) hown hK G.1 0 rfl rfl 17 (by decide) (hts _ (gm tw_438)) (fun _ h9 => h9) rfl d_M_pull_I_78 ?_
    refine lv_iload_n hx hb d_M_pull_I_81 rfl (lv_at hl 6 rfl) ?_
    refine va_lald hx hb hK G.1 12 0 rfl rfl hk_x1 d_M_pull_I_82 ?_
    refine pu_l (As := [.long (m_l S x1.toNatClampNeg)]) (rest := [.long v5, .long (f_M_toDouble_J (m_k S x1.toNatClampNeg))]) ⟨hx, hb, hml, hown, hts⟩ (c_M_toDouble_J l _ t0 t1 t2 (m_l S x1.toNatClampNeg)) (pr_pre (hx_R hRT G)) (gw_call (k := 1) hts tw_570 tw_571 tw_4 tw_572 (by decide +kernel) rfl rfl ⟨Nat.le_of_ble_eq_true rfl, Nat.le_of_ble_eq_true rfl⟩) rfl hl.1 rfl (Nat.le_of_ble_eq_true rfl) ⟨Nat.zero_le _, Nat.zero_le _⟩ d_M_pull_I_83 ?_
    refine pu_l (As := [.long v5, .long (f_M_toDouble_J (m_l S x1.toNatClampNeg))]) (rest := [.long (f_M_toDouble_J (m_k S x1.toNatClampNeg))]) ⟨hx, hb, hml, hown, hts⟩ (c_M_subtract_JJ l _ t0 t1 t2 v5 (f_M_toDouble_J (m_l S x1.toNatClampNeg))) (pr_pre (hx_R hRT G)) (gw_call (k := 2) hts tw_588 tw_589 tw_4 tw_590 (by decide +kernel) rfl rfl ⟨Nat.le_of_ble_eq_true rfl, Nat.le_of_ble_eq_true rfl⟩) rfl hl.1 rfl (Nat.le_of_ble_eq_true rfl) ⟨Nat.zero_le _, Nat.zero_le _⟩ d_M_pull_I_86 ?_
    refine pu_l (As := [.long (f_M_toDouble_J (m_k S x1.toNatClampNeg)), .long (f_M_subtract_JJ v5 (f_M_toDouble_J (m_l S x1.toNatClampNeg)))]) (rest := []) ⟨hx, hb, hml, hown, hts⟩ (c_M_multiply_JJ l _ t0 t1 t2 (f_M_toDouble_J (m_k S x1.toNatClampNeg)) (f_M_subtract_JJ v5 (f_M_toDouble_J (m_l S x1.toNatClampNeg)))) (pr_pre (hx_R hRT G)) (gw_call (k := 2) hts tw_573 tw_574 tw_4 tw_575 (by decide +kernel) rfl rfl ⟨Nat.le_of_ble_eq_true rfl, Nat.le_of_ble_eq_true rfl⟩) rfl hl.1 rfl (Nat.le_of_ble_eq_true rfl) ⟨Nat.zero_le _, Nat.zero_le _⟩ d_M_pull_I_89 ?_
    refine lv_lload hx hb d_M_pull_I_92 (lv_at hl 0 rfl) ?_
    refine pu_l (As := [.long (f_M_multiply_JJ (f_M_toDouble_J (m_k S x1.toNatClampNeg)) (f_M_subtract_JJ v5 (f_M_toDouble_J (m_l S x1.toNatClampNeg)))), .long v5]) (rest := []) ⟨hx, hb, hml, hown, hts⟩ (c_M_divide_JJ l _ t0 t1 t2 (f_M_multiply_JJ (f_M_toDouble_J (m_k S x1.toNatClampNeg)) (f_M_subtract_JJ v5 (f_M_toDouble_J (m_l S x1.toNatClampNeg)))) v5) (pr_pre (hx_R hRT G)) (gw_call (k := 2) hts tw_624 tw_625 tw_4 tw_626 (by decide +kernel) rfl rfl ⟨Nat.le_of_ble_eq_true rfl, Nat.le_of_ble_eq_true rfl⟩) rfl hl.1 rfl (Nat.le_of_ble_eq_true rfl) ⟨Nat.zero_le _, Nat.zero_le _⟩ d_M_pull_I_94 ?_
    refine lv_topl (fun v7 e7 => ?_)
    refine lv_lstore (lv' := [(10, .long v7), (8, .long v5), (6, .long v4), (4, .long v3), (3, .int v2), (2, .int v1), (0, .ref (ad 0)), (1, .int x1)]) hx hb d_M_pull_I_97 hl (by decide) rfl (fun ls hl => ?_)
    refine lv_aload_n hx hb d_M_pull_I_99 rfl (lv_at hl 6 rfl) ?_
    refine va_get (D := (dC, dI)) (ci := 3) (v := .ref (ad 3)) (C := R_M) (T := F_M) (N := 21) hx hb hts (fun w h => gm (i_M w h)) hown hK G.1 0 rfl rfl 2 (by decide) (hts _ (gm tw_423)) (fun _ h9 => h9) rfl d_M_pull_I_100 ?_
    refine lv_iload_n hx hb d_M_pull_I_103 rfl (lv_at hl 4 rfl) ?_
    refine va_lald hx hb hK G.1 3 0 rfl rfl (by rw [e2]; exact hb2) d_M_pull_I_104 ?_
    refine lv_aload_n hx hb d_M_pull_I_105 rfl (lv_at hl 6 rfl) ?_
    refine va_get (D := (dC, dI)) (ci := 3) (v := .ref (ad 3)) (C := R_M) (T := F_M) (N := 21) hx hb hts (fun w h => gm (i_M w h)) hown hK G.1 0 rfl rfl 2 (by decide) (hts _ (gm tw_423)) (fun _ h9 => h9) rfl d_M_pull_I_106 ?_
    refine lv_iload_n hx hb d_M_pull_I_109 rfl (lv_at hl 5 rfl) ?_
    refine va_lald hx hb hK G.1 3 0 rfl rfl (by rw [e1]; exact hb1) d_M_pull_I_110 ?_
    refine pu_l (As := [.long (m_u S v2.toNatClampNeg), .long (m_u S v1.toNatClampNeg)]) (rest := []) ⟨hx, hb, hml, hown, hts⟩ (c_M_subtract_JJ l _ t0 t1 t2 (m_u S v2.toNatClampNeg) (m_u S v1.toNatClampNeg)) (pr_pre (hx_R hRT G)) (gw_call (k := 2) hts tw_588 tw_589 tw_4 tw_590 (by decide +kernel) rfl rfl ⟨Nat.le_of_ble_eq_true rfl, Nat.le_of_ble_eq_true rfl⟩) rfl hl.1 rfl (Nat.le_of_ble_eq_true rfl) ⟨Nat.zero_le _, Nat.zero_le _⟩ d_M_pull_I_111 ?_
    refine lv_lload hx hb d_M_pull_I_114 (lv_at hl 3 rfl) ?_
    refine pu_l (As := [.long (f_M_subtract_JJ (m_u S v2.toNatClampNeg) (m_u S v1.toNatClampNeg)), .long v3]) (rest := []) ⟨hx, hb, hml, hown, hts⟩ (c_M_multiply_JJ l _ t0 t1 t2 (f_M_subtract_JJ (m_u S v2.toNatClampNeg) (m_u S v1.toNatClampNeg)) v3) (pr_pre (hx_R hRT G)) (gw_call (k := 2) hts tw_573 tw_574 tw_4 tw_575 (by decide +kernel) rfl rfl ⟨Nat.le_of_ble_eq_true rfl, Nat.le_of_ble_eq_true rfl⟩) rfl hl.1 rfl (Nat.le_of_ble_eq_true rfl) ⟨Nat.zero_le _, Nat.zero_le _⟩ d_M_pull_I_116 ?_
    refine lv_aload_n hx hb d_M_pull_I_119 rfl (lv_at hl 6 rfl) ?_
    refine va_get (D := (dC, dI)) (ci := 3) (v := .ref (ad 4)) (C := R_M) (T := F_M) (N := 21) hx hb hts (fun w h => gm (i_M w h)) hown hK G.1 0 rfl rfl 3 (by decide) (hts _ (gm tw_424)) (fun _ h9 => h9) rfl d_M_pull_I_120 ?_
    refine lv_iload_n hx hb d_M_pull_I_123 rfl (lv_at hl 4 rfl) ?_
    refine va_lald hx hb hK G.1 4 0 rfl rfl (by rw [e2]; exact hb2) d_M_pull_I_124 ?_
    refine lv_aload_n hx hb d_M_pull_I_125 rfl (lv_at hl 6 rfl) ?_
    refine va_get (D := (dC, dI)) (ci := 3) (v := .ref (ad 4)) (C := R_M) (T := F_M) (N := 21) hx hb hts (fun w h => gm (i_M w h)) hown hK G.1 0 rfl rfl 3 (by decide) (hts _ (gm tw_424)) (fun _ h9 => h9) rfl d_M_pull_I_126 ?_
    refine lv_iload_n hx hb d_M_pull_I_129 rfl (lv_at hl 5 rfl) ?_
    refine va_lald hx hb hK G.1 4 0 rfl rfl (by rw [e1]; exact hb1) d_M_pull_I_130 ?_
    refine pu_l (As := [.long (m_v S v2.toNatClampNeg), .long (m_v S v1.toNatClampNeg)]) (rest := [.long (f_M_multiply_JJ (f_M_subtract_JJ (m_u S v2.toNatClampNeg) (m_u S v1.toNatClampNeg)) v3)]) ⟨hx, hb, hml, hown, hts⟩ (c_M_subtract_JJ l _ t0 t1 t2 (m_v S v2.toNatClampNeg) (m_v S v1.toNatClampNeg)) (pr_pre (hx_R hRT G)) (gw_call (k := 2) hts tw_588 tw_589 tw_4 tw_590 (by decide +kernel) rfl rfl ⟨Nat.le_of_ble_eq_true rfl, Nat.le_of_ble_eq_true rfl⟩) rfl hl.1 rfl (Nat.le_of_ble_eq_true rfl) ⟨Nat.zero_le _, Nat.zero_le _⟩ d_M_pull_I_131 ?_
    refine lv_lload hx hb d_M_pull_I_134 (lv_at hl 2 rfl) ?_
    refine pu_l (As := [.long (f_M_subtract_JJ (m_v S v2.toNatClampNeg) (m_v S v1.toNatClampNeg)), .long v4]) (rest := [.long (f_M_multiply_JJ (f_M_subtract_JJ (m_u S v2.toNatClampNeg) (m_u S v1.toNatClampNeg)) v3)]) ⟨hx, hb, hml, hown, hts⟩ (c_M_multiply_JJ l _ t0 t1 t2 (f_M_subtract_JJ (m_v S v2.toNatClampNeg) (m_v S v1.toNatClampNeg)) v4) (pr_pre (hx_R hRT G)) (gw_call (k := 2) hts tw_573 tw_574 tw_4 tw_575 (by decide +kernel) rfl rfl ⟨Nat.le_of_ble_eq_true rfl, Nat.le_of_ble_eq_true rfl⟩) rfl hl.1 rfl (Nat.le_of_ble_eq_true rfl) ⟨Nat.zero_le _, Nat.zero_le _⟩ d_M_pull_I_136 ?_
    refine pu_l (As := [.long (f_M_multiply_JJ (f_M_subtract_JJ (m_u S v2.toNatClampNeg) (m_u S v1.toNatClampNeg)) v3), .long (f_M_multiply_JJ (f_M_subtract_JJ (m_v S v2.toNatClampNeg) (m_v S v1.toNatClampNeg)) v4)]) (rest := []) ⟨hx, hb, hml, hown, hts⟩ (c_M_add_JJ l _ t0 t1 t2 (f_M_multiply_JJ (f_M_subtract_JJ (m_u S v2.toNatClampNeg) (m_u S v1.toNatClampNeg)) v3) (f_M_multiply_JJ (f_M_subtract_JJ (m_v S v2.toNatClampNeg) (m_v S v1.toNatClampNeg)) v4)) (pr_pre (hx_R hRT G)) (gw_call (k := 2) hts tw_611 tw_612 tw_4 tw_613 (by decide +kernel) rfl rfl ⟨Nat.le_of_ble_eq_true rfl, Nat.le_of_ble_eq_true rfl⟩) rfl hl.1 rfl (Nat.le_of_ble_eq_true rfl) ⟨Nat.zero_le _, Nat.zero_le _⟩ d_M_pull_I_139 ?_
    refine lv_topl (fun v8 e8 => ?_)
    refine lv_lstore (lv' := [(12, .long v8), (10, .long v7), (8, .long v5), (6, .long v4), (4, .long v3), (3, .int v2), (2, .int v1), (0, .ref (ad 0)), (1, .int x1)]) hx hb d_M_pull_I_142 hl (by decide) rfl (fun ls hl => ?_)
    refine lv_lload hx hb d_M_pull_I_144 (lv_at hl 1 rfl) ?_
    refine lv_aload_n hx hb d_M_pull_I_146 rfl (lv_at hl 7 rfl) ?_
    refine va_get (D := (dC, dI)) (ci := 3) (v := .ref (ad 13)) (C := R_M) (T := F_M) (N := 21) hx hb hts (fun w h => gm (i_M w h)) hown hK G.1 0 rfl rfl 18 (by decide) (hts _ (gm tw_439)) (fun _ h9 => h9) rfl d_M_pull_I_147 ?_
    refine lv_iload_n hx hb d_M_pull_I_150 rfl (lv_at hl 8 rfl) ?_
    refine va_lald hx hb hK G.1 13 0 rfl rfl hk_x1 d_M_pull_I_151 ?_
    refine pu_l (As := [.long (m_c S x1.toNatClampNeg)]) (rest := [.long v7]) ⟨hx, hb, hml, hown, hts⟩ (c_M_toDouble_J l _ t0 t1 t2 (m_c S x1.toNatClampNeg)) (pr_pre (hx_R hRT G)) (gw_call (k := 1) hts tw_570 tw_571 tw_4 tw_572 (by decide +kernel) rfl rfl ⟨Nat.le_of_ble_eq_true rfl, Nat.le_of_ble_eq_true rfl⟩) rfl hl.1 rfl (Nat.le_of_ble_eq_true rfl) ⟨Nat.zero_le _, Nat.zero_le _⟩ d_M_pull_I_152 ?_
    refine lv_lload hx hb d_M_pull_I_155 (lv_at hl 0 rfl) ?_
    refine pu_l (As := [.long (f_M_toDouble_J (m_c S x1.toNatClampNeg)), .long v8]) (rest := [.long v7]) ⟨hx, hb, hml, hown, hts⟩ (c_M_multiply_JJ l _ t0 t1 t2 (f_M_toDouble_J (m_c S x1.toNatClampNeg)) v8) (pr_pre (hx_R hRT G)) (gw_call (k := 2) hts tw_573 tw_574 tw_4 tw_575 (by decide +kernel) rfl rfl ⟨Nat.le_of_ble_eq_true rfl, Nat.le_of_ble_eq_true rfl⟩) rfl hl.1 rfl (Nat.le_of_ble_eq_true rfl) ⟨Nat.zero_le _, Nat.zero_le _⟩ d_M_pull_I_157 ?_
    refine lv_lload hx hb d_M_pull_I_160 (lv_at hl 2 rfl) ?_
    refine lv_lload hx hb d_M_pull_I_162 (lv_at hl 2 rfl) ?_
    refine pu_l (As := [.long v5, .long v5]) (rest := [.long (f_M_multiply_JJ (f_M_toDouble_J (m_c S x1.toNatClampNeg)) v8), .long v7]) ⟨hx, hb, hml, hown, hts⟩ (c_M_multiply_JJ l _ t0 t1 t2 v5 v5) (pr_pre (hx_R hRT G)) (gw_call (k := 2) hts tw_573 tw_574 tw_4 tw_575 (by decide +kernel) rfl rfl ⟨Nat.le_of_ble_eq_true rfl, Nat.le_of_ble_eq_true rfl⟩) rfl hl.1 rfl (Nat.le_of_ble_eq_true rfl) ⟨Nat.zero_le _, Nat.zero_le _⟩ d_M_pull_I_164 ?_
    refine pu_l (As := [.long (f_M_multiply_JJ (f_M_toDouble_J (m_c S x1.toNatClampNeg)) v8), .long (f_M_multiply_JJ v5 v5)]) (rest := [.long v7]) ⟨hx, hb, hml, hown, hts⟩ (c_M_divide_JJ l _ t0 t1 t2 (f_M_multiply_JJ (f_M_toDouble_J (m_c S x1.toNatClampNeg)) v8) (f_M_multiply_JJ v5 v5)) (pr_pre (hx_R hRT G)) (gw_call (k := 2) hts tw_624 tw_625 tw_4 tw_626 (by decide +kernel) rfl rfl ⟨Nat.le_of_ble_eq_true rfl, Nat.le_of_ble_eq_true rfl⟩) rfl hl.1 rfl (Nat.le_of_ble_eq_true rfl) ⟨Nat.zero_le _, Nat.zero_le _⟩ d_M_pull_I_167 ?_
    refine pu_l (As := [.long v7, .long (f_M_divide_JJ (f_M_multiply_JJ (f_M_toDouble_J (m_c S x1.toNatClampNeg)) v8) (f_M_multiply_JJ v5 v5))]) (rest := []) ⟨hx, hb, hml, hown, hts⟩ (c_M_add_JJ l _ t0 t1 t2 v7 (f_M_divide_JJ (f_M_multiply_JJ (f_M_toDouble_J (m_c S x1.toNatClampNeg)) v8) (f_M_multiply_JJ v5 v5))) (pr_pre (hx_R hRT G)) (gw_call (k := 2) hts tw_611 tw_612 tw_4 tw_613 (by decide +kernel) rfl rfl ⟨Nat.le_of_ble_eq_true rfl, Nat.le_of_ble_eq_true rfl⟩) rfl hl.1 rfl (Nat.le_of_ble_eq_true rfl) ⟨Nat.zero_le _, Nat.zero_le _⟩ d_M_pull_I_170 ?_
    refine lv_topl (fun v9 e9 => ?_)
    refine lv_lstore (lv' := [(10, .long v9), (12, .long v8), (8, .long v5), (6, .long v4), (4, .long v3), (3, .int v2), (2, .int v1), (0, .ref (ad 0)), (1, .int x1)]) hx hb d_M_pull_I_173 hl (by decide) rfl (fun ls hl => ?_)
    refine lv_aload_n hx hb d_M_pull_I_175 rfl (lv_at hl 7 rfl) ?_
    refine va_get (D := (dC, dI)) (ci := 3) (v := .ref (ad 7)) (C := R_M) (T := F_M) (N := 21) hx hb hts (fun w h => gm (i_M w h)) hown hK G.1 0 rfl rfl 6 (by decide) (hts _ (gm tw_427)) (fun _ h9 => h9) rfl d_M_pull_I_176 ?_
    refine lv_iload_n hx hb d_M_pull_I_179 rfl (lv_at hl 6 rfl) ?_
    refine lv_aload_n hx hb d_M_pull_I_180 rfl (lv_at hl 7 rfl) ?_
    refine va_get (D := (dC, dI)) (ci := 3) (v := .ref (ad 7)) (C := R_M) (T := F_M) (N := 21) hx hb hts (fun w h => gm (i_M w h)) hown hK G.1 0 rfl rfl 6 (by decide) (hts _ (gm tw_427)) (fun _ h9 => h9) rfl d_M_pull_I_181 ?_
    refine lv_iload_n hx hb d_M_pull_I_184 rfl (lv_at hl 6 rfl) ?_
    refine va_lald hx hb hK G.1 7 0 rfl rfl (by rw [e1]; exact hb1) d_M_pull_I_185 ?_
    refine lv_lload hx hb d_M_pull_I_186 (lv_at hl 0 rfl) ?_
    refine lv_lload hx hb d_M_pull_I_188 (lv_at hl 4 rfl) ?_
    refine pu_l (As := [.long v9, .long v3]) (rest := [.long (m_fx S v1.toNatClampNeg), .int v1, .ref (ad 7)]) ⟨hx, hb, hml, hown, hts⟩ (c_M_multiply_JJ l _ t0 t1 t2 v9 v3) (pr_pre (hx_R hRT G)) (gw_call (k := 2) hts tw_573 tw_574 tw_4 tw_575 (by decide +kernel) rfl rfl ⟨Nat.le_of_ble_eq_true rfl, Nat.le_of_ble_eq_true rfl⟩) rfl hl.1 rfl (Nat.le_of_ble_eq_true rfl) ⟨Nat.zero_le _, Nat.zero_le _⟩ d_M_pull_I_190 ?_
    refine pu_l (As := [.long (m_fx S v1.toNatClampNeg), .long (f_M_multiply_JJ v9 v3)]) (rest := [.int v1, .ref (ad 7)]) ⟨hx, hb, hml, hown, hts⟩ (c_M_add_JJ l _ t0 t1 t2 (m_fx S v1.toNatClampNeg) (f_M_multiply_JJ v9 v3)) (pr_pre (hx_R hRT G)) (gw_call (k := 2) hts tw_611 tw_612 tw_4 tw_613 (by decide +kernel) rfl rfl ⟨Nat.le_of_ble_eq_true rfl, Nat.le_of_ble_eq_true rfl⟩) rfl hl.1 rfl (Nat.le_of_ble_eq_true rfl) ⟨Nat.zero_le _, Nat.zero_le _⟩ d_M_pull_I_193 ?_
    obtain ⟨S10, e10⟩ : ∃ z : MS, z = u_m_fx S (vp_updL (m_fx S) v1.toNatClampNeg (f_M_add_JJ (m_fx S v1.toNatClampNeg) (f_M_multiply_JJ v9 v3))) := ⟨_, rfl⟩
    refine hg_last hx hb hK G 7 0 rfl rfl (by rw [e1]; exact hb1) d_M_pull_I_196 (mW ad cJ cI S10) (by rw [e10]; rfl) (fun H locs G => ?_)
    refine lv_aload_n hx hb d_M_pull_I_197 rfl (lv_at hl 7 rfl) ?_
    refine va_get (D := (dC, dI)) (ci := 3) (v := .ref (ad 8)) (C := R_M) (T := F_M) (N := 21) hx hb hts (fun w h => gm (i_M w h)) hown hK G.1 0 rfl rfl 7 (by decide) (hts _ (gm tw_428)) (fun _ h9 => h9) rfl d_M_pull_I_198 ?_
    refine lv_iload_n hx hb d_M_pull_I_201 rfl (lv_at hl 6 rfl) ?_
    refine lv_aload_n hx hb d_M_pull_I_202 rfl (lv_at hl 7 rfl) ?_
    refine va_get (D := (dC, dI)) (ci := 3) (v := .ref (ad 8)) (C := R_M) (T := F_M) (N := 21) hx hb hts (fun w h => gm (i_M w h)) hown hK G.1 0 rfl rfl 7 (by decide) (hts _ (gm tw_428)) (fun _ h9 => h9) rfl d_M_pull_I_203 ?_
    refine lv_iload_n hx hb d_M_pull_I_206 rfl (lv_at hl 6 rfl) ?_
    refine va_lald hx hb hK G.1 8 0 rfl rfl (by rw [e1]; exact hb1) d_M_pull_I_207 ?_
    refine lv_lload hx hb d_M_pull_I_208 (lv_at hl 0 rfl) ?_
    refine lv_lload hx hb d_M_pull_I_210 (lv_at hl 3 rfl) ?_
    refine pu_l (As := [.long v9, .long v4]) (rest := [.long (m_fy S10 v1.toNatClampNeg), .int v1, .ref (ad 8)]) ⟨hx, hb, hml, hown, hts⟩ (c_M_multiply_JJ l _ t0 t1 t2 v9 v4) (pr_pre (hx_R hRT G)) (gw_call (k := 2) hts tw_573 tw_574 tw_4 tw_575 (by decide +kernel) rfl rfl ⟨Nat.le_of_ble_eq_true rfl, Nat.le_of_ble_eq_true rfl⟩) rfl hl.1 rfl (Nat.le_of_ble_eq_true rfl) ⟨Nat.zero_le _, Nat.zero_le _⟩ d_M_pull_I_212 ?_
    refine pu_l (As := [.long (m_fy S10 v1.toNatClampNeg), .long (f_M_multiply_JJ v9 v4)]) (rest := [.int v1, .ref (ad 8)]) ⟨hx, hb, hml, hown, hts⟩ (c_M_add_JJ l _ t0 t1 t2 (m_fy S10 v1.toNatClampNeg) (f_M_multiply_JJ v9 v4)) (pr_pre (hx_R hRT G)) (gw_call (k := 2) hts tw_611 tw_612 tw_4 tw_613 (by decide +kernel) rfl rfl ⟨Nat.le_of_ble_eq_true rfl, Nat.le_of_ble_eq_true rfl⟩) rfl hl.1 rfl (Nat.le_of_ble_eq_true rfl) ⟨Nat.zero_le _, Nat.zero_le _⟩ d_M_pull_I_215 ?_
    obtain ⟨S11, e11⟩ : ∃ z : MS, z = u_m_fy S10 (vp_updL (m_fy S10) v1.toNatClampNeg (f_M_add_JJ (m_fy S10 v1.toNatClampNeg) (f_M_multiply_JJ v9 v4))) := ⟨_, rfl⟩
    refine hg_last hx hb hK G 8 0 rfl rfl (by rw [e1]; exact hb1) d_M_pull_I_218 (mW ad cJ cI S11) (by rw [e11]; rfl) (fun H locs G => ?_)
    refine lv_aload_n hx hb d_M_pull_I_219 rfl (lv_at hl 7 rfl) ?_
    refine va_get (D := (dC, dI)) (ci := 3) (v := .ref (ad 7)) (C := R_M) (T := F_M) (N := 21) hx hb hts (fun w h => gm (i_M w h)) hown hK G.1 0 rfl rfl 6 (by decide) (hts _ (gm tw_427)) (fun _ h9 => h9) rfl d_M_pull_I_220 ?_
    refine lv_iload_n hx hb d_M_pull_I_223 rfl (lv_at hl 5 rfl) ?_
    refine lv_aload_n hx hb d_M_pull_I_224 rfl (lv_at hl 7 rfl) ?_
    refine va_get (D := (dC, dI)) (ci := 3) (v := .ref (ad 7)) (C := R_M) (T := F_M) (N := 21) hx hb hts (fun w h => gm (i_M w h)) hown hK G.1 0 rfl rfl 6 (by decide) (hts _ (gm tw_427)) (fun _ h9 => h9) rfl d_M_pull_I_225 ?_
    refine lv_iload_n hx hb d_M_pull_I_228 rfl (lv_at hl 5 rfl) ?_
    refine va_lald hx hb hK G.1 7 0 rfl rfl (by rw [e2]; exact hb2) d_M_pull_I_229 ?_
    refine lv_lload hx hb d_M_pull_I_230 (lv_at hl 0 rfl) ?_
    refine lv_lload hx hb d_M_pull_I_232 (lv_at hl 4 rfl) ?_
    refine pu_l (As := [.long v9, .long v3]) (rest := [.long (m_fx S11 v2.toNatClampNeg), .int v2, .ref (ad 7)]) ⟨hx, hb, hml, hown, hts⟩ (c_M_multiply_JJ l _ t0 t1 t2 v9 v3) (pr_pre (hx_R hRT G)) (gw_call (k := 2) hts tw_573 tw_574 tw_4 tw_575 (by decide +kernel) rfl rfl ⟨Nat.le_of_ble_eq_true rfl, Nat.le_of_ble_eq_true rfl⟩) rfl hl.1 rfl (Nat.le_of_ble_eq_true rfl) ⟨Nat.zero_le _, Nat.zero_le _⟩ d_M_pull_I_234 ?_
    refine pu_l (As := [.long (m_fx S11 v2.toNatClampNeg), .long (f_M_multiply_JJ v9 v3)]) (rest := [.int v2, .ref (ad 7)]) ⟨hx, hb, hml, hown, hts⟩ (c_M_subtract_JJ l _ t0 t1 t2 (m_fx S11 v2.toNatClampNeg) (f_M_multiply_JJ v9 v3)) (pr_pre (hx_R hRT G)) (gw_call (k := 2) hts tw_588 tw_589 tw_4 tw_590 (by decide +kernel) rfl rfl ⟨Nat.le_of_ble_eq_true rfl, Nat.le_of_ble_eq_true rfl⟩) rfl hl.1 rfl (Nat.le_of_ble_eq_true rfl) ⟨Nat.zero_le _, Nat.zero_le _⟩ d_M_pull_I_237 ?_
    obtain ⟨S12, e12⟩ : ∃ z : MS, z = u_m_fx S11 (vp_updL (m_fx S11) v2.toNatClampNeg (f_M_subtract_JJ (m_fx S11 v2.toNatClampNeg) (f_M_multiply_JJ v9 v3))) := ⟨_, rfl⟩
    refine hg_last hx hb hK G 7 0 rfl rfl (by rw [e2]; exact hb2) d_M_pull_I_240 (mW ad cJ cI S12) (by rw [e12]; rfl) (fun H locs G => ?_)
    refine lv_aload_n hx hb d_M_pull_I_241 rfl (lv_at hl 7 rfl) ?_
    refine va_get (D := (dC, dI)) (ci := 3) (v := .ref (ad 8)) (C := R_M) (T := F_M) (N := 21) hx hb hts (fun w h => gm (i_M w h)) hown hK G.1 0 rfl rfl 7 (by decide) (hts _ (gm tw_428)) (fun _ h9 => h9) rfl d_M_pull_I_242 ?_
    refine lv_iload_n hx hb d_M_pull_I_245 rfl (lv_at hl 5 rfl) ?_
    refine lv_aload_n hx hb d_M_pull_I_246 rfl (lv_at hl 7 rfl) ?_
    refine va_get (D := (dC, dI)) (ci := 3) (v := .ref (ad 8)) (C := R_M) (T := F_M) (N := 21) hx hb hts (fun w h => gm (i_M w h)) hown hK G.1 0 rfl rfl 7 (by decide) (hts _ (gm tw_428)) (fun _ h9 => h9) rfl d_M_pull_I_247 ?_
    refine lv_iload_n hx hb d_M_pull_I_250 rfl (lv_at hl 5 rfl) ?_
    refine va_lald hx hb hK G.1 8 0 rfl rfl (by rw [e2]; exact hb2) d_M_pull_I_251 ?_
    refine lv_lload hx hb d_M_pull_I_252 (lv_at hl 0 rfl) ?_
    refine lv_lload hx hb d_M_pull_I_254 (lv_at hl 3 rfl) ?_
    refine pu_l (As := [.long v9, .long v4]) (rest := [.long (m_fy S12 v2.toNatClampNeg), .int v2, .ref (ad 8)]) ⟨hx, hb, hml, hown, hts⟩ (c_M_multiply_JJ l _ t0 t1 t2 v9 v4) (pr_pre (hx_R hRT G)) (gw_call (k := 2) hts tw_573 tw_574 tw_4 tw_575 (by decide +kernel) rfl rfl ⟨Nat.le_of_ble_eq_true rfl, Nat.le_of_ble_eq_true rfl⟩) rfl hl.1 rfl (Nat.le_of_ble_eq_true rfl) ⟨Nat.zero_le _, Nat.zero_le _⟩ d_M_pull_I_256 ?_
    refine pu_l (As := [.long (m_fy S12 v2.toNatClampNeg), .long (f_M_multiply_JJ v9 v4)]) (rest := [.int v2, .ref (ad 8)]) ⟨hx, hb, hml, hown, hts⟩ (c_M_subtract_JJ l _ t0 t1 t2 (m_fy S12 v2.toNatClampNeg) (f_M_multiply_JJ v9 v4)) (pr_pre (hx_R hRT G)) (gw_call (k := 2) hts tw_588 tw_589 tw_4 tw_590 (by decide +kernel) rfl rfl ⟨Nat.le_of_ble_eq_true rfl, Nat.le_of_ble_eq_true rfl⟩) rfl hl.1 rfl (Nat.le_of_ble_eq_true rfl) ⟨Nat.zero_le _, Nat.zero_le _⟩ d_M_pull_I_259 ?_
    obtain ⟨S13, e13⟩ : ∃ z : MS, z = u_m_fy S12 (vp_updL (m_fy S12) v2.toNatClampNeg (f_M_subtract_JJ (m_fy S12 v2.toNatClampNeg) (f_M_multiply_JJ v9 v4))) := ⟨_, rfl⟩
    refine hg_last hx hb hK G 8 0 rfl rfl (by rw [e2]; exact hb2) d_M_pull_I_262 (mW ad cJ cI S13) (by rw [e13]; rfl) (fun H locs G => ?_)
    exact hg_vret hx hb hr hlocks hK hAe G (by have qe1 := e1.symm; have qe2 := e2.symm; have qe3 := e3.symm; have qe4 := e4.symm; have qe5 := e5.symm; have qe7 := e7.symm; have qe8 := e8.symm; have qe9 := e9.symm; have qe10 := e10.symm; have qe11 := e11.symm; have qe12 := e12.symm; have qe13 := e13.symm; subst qe1 qe2 qe3 qe4 qe5 qe7 qe8 qe9 qe10 qe11 qe12 qe13; unfold f_M_pull_I; dsimp only; rw [if_pos c6]) d_M_pull_I_263
  · exact hg_vret hx hb hr hlocks hK hAe G (by have qe1 := e1.symm; have qe2 := e2.symm; have qe3 := e3.symm; have qe4 := e4.symm; have qe5 := e5.symm; subst qe1 qe2 qe3 qe4 qe5; unfold f_M_pull_I; dsimp only; rw [if_neg c6]) d_M_pull_I_65
theorem kq_pull (S : MS) (x : Int32) : m_left (f_M_pull_I S x) = m_left S ∧ m_right (f_M_pull_I S x) = m_right S ∧ m_springs (f_M_pull_I S x) = m_springs S := by unfold f_M_pull_I; dsimp only; split <;> exact ⟨rfl, rfl, rfl⟩
theorem mOK_at {S : MS} {x : Int32} {n : Nat} (hOK : mOK S) (h : ∃ j : Nat, x = nI j ∧ j ≤ (m_springs S).toNatClampNeg ∧ (m_springs S).toNatClampNeg - j < n) (c : ¬ m_springs S ≤ x) : vp_in x 10 ∧ vp_in (m_left S x.toNatClampNeg) 8 ∧ vp_in (m_right S x.toNatClampNeg) 8 := by
  obtain ⟨j, h1, h2, h3⟩ := lp_at h hOK.1 c
  have hx : vp_in x 10 := by rw [h1]; exact vp_in_nI h3 (by decide)
  have hb := hOK.2 j h2
  have e : x.toNatClampNeg = j := by rw [h1]; exact nI_clamp (by omega)
  rw [e]
  exact ⟨hx, hb.1, hb.2⟩
