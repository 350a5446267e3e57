-- ===== MotionLabModel.hit(II)V 
abbrev y_M_hit_II : MethodName := ⟨"MotionLabModel", "hit", "(II)V"⟩
abbrev b_M_hit_II : ByteArray := prog_6_method_42_code
theorem d_M_hit_II_0 : decode b_M_hit_II 0 = .ok (.aload_n 0, 1) := by decide +kernel
theorem d_M_hit_II_1 : decode b_M_hit_II 1 = .ok (.getfield 133, 3) := by decide +kernel
theorem d_M_hit_II_4 : decode b_M_hit_II 4 = .ok (.iload_n 2, 1) := by decide +kernel
theorem d_M_hit_II_5 : decode b_M_hit_II 5 = .ok (.laload, 1) := by decide +kernel
theorem d_M_hit_II_6 : decode b_M_hit_II 6 = .ok (.aload_n 0, 1) := by decide +kernel
theorem d_M_hit_II_7 : decode b_M_hit_II 7 = .ok (.getfield 133, 3) := by decide +kernel
theorem d_M_hit_II_10 : decode b_M_hit_II 10 = .ok (.iload_n 1, 1) := by decide +kernel
theorem d_M_hit_II_11 : decode b_M_hit_II 11 = .ok (.laload, 1) := by decide +kernel
theorem d_M_hit_II_12 : decode b_M_hit_II 12 = .ok (.invokestatic 218, 3) := by decide +kernel
theorem d_M_hit_II_15 : decode b_M_hit_II 15 = .ok (.lstore_n 3, 1) := by decide +kernel
theorem d_M_hit_II_16 : decode b_M_hit_II 16 = .ok (.aload_n 0, 1) := by decide +kernel
theorem d_M_hit_II_17 : decode b_M_hit_II 17 = .ok (.getfield 137, 3) := by decide +kernel
theorem d_M_hit_II_20 : decode b_M_hit_II 20 = .ok (.iload_n 2, 1) := by decide +kernel
theorem d_M_hit_II_21 : decode b_M_hit_II 21 = .ok (.laload, 1) := by decide +kernel
theorem d_M_hit_II_22 : decode b_M_hit_II 22 = .ok (.aload_n 0, 1) := by decide +kernel
theorem d_M_hit_II_23 : decode b_M_hit_II 23 = .ok (.getfield 137, 3) := by decide +kernel
theorem d_M_hit_II_26 : decode b_M_hit_II 26 = .ok (.iload_n 1, 1) := by decide +kernel
theorem d_M_hit_II_27 : decode b_M_hit_II 27 = .ok (.laload, 1) := by decide +kernel
theorem d_M_hit_II_28 : decode b_M_hit_II 28 = .ok (.invokestatic 218, 3) := by decide +kernel
theorem d_M_hit_II_31 : decode b_M_hit_II 31 = .ok (.lstore 5, 2) := by decide +kernel
theorem d_M_hit_II_33 : decode b_M_hit_II 33 = .ok (.lload_n 3, 1) := by decide +kernel
theorem d_M_hit_II_34 : decode b_M_hit_II 34 = .ok (.lload 5, 2) := by decide +kernel
theorem d_M_hit_II_36 : decode b_M_hit_II 36 = .ok (.invokestatic 220, 3) := by decide +kernel
theorem d_M_hit_II_39 : decode b_M_hit_II 39 = .ok (.lstore 7, 2) := by decide +kernel
theorem d_M_hit_II_41 : decode b_M_hit_II 41 = .ok (.aload_n 0, 1) := by decide +kernel
theorem d_M_hit_II_42 : decode b_M_hit_II 42 = .ok (.getfield 149, 3) := by decide +kernel
theorem d_M_hit_II_45 : decode b_M_hit_II 45 = .ok (.iload_n 1, 1) := by decide +kernel
theorem d_M_hit_II_46 : decode b_M_hit_II 46 = .ok (.laload, 1) := by decide +kernel
theorem d_M_hit_II_47 : decode b_M_hit_II 47 = .ok (.aload_n 0, 1) := by decide +kernel
theorem d_M_hit_II_48 : decode b_M_hit_II 48 = .ok (.getfield 149, 3) := by decide +kernel
theorem d_M_hit_II_51 : decode b_M_hit_II 51 = .ok (.iload_n 2, 1) := by decide +kernel
theorem d_M_hit_II_52 : decode b_M_hit_II 52 = .ok (.laload, 1) := by decide +kernel
theorem d_M_hit_II_53 : decode b_M_hit_II 53 = .ok (.iconst 1, 1) := by decide +kernel
theorem d_M_hit_II_54 : decode b_M_hit_II 54 = .ok (.invokestatic 82, 3) := by decide +kernel
theorem d_M_hit_II_57 : decode b_M_hit_II 57 = .ok (.lstore 9, 2) := by decide +kernel
theorem d_M_hit_II_59 : decode b_M_hit_II 59 = .ok (.lload 7, 2) := by decide +kernel
theorem d_M_hit_II_61 : decode b_M_hit_II 61 = .ok (.lload 9, 2) := by decide +kernel
theorem d_M_hit_II_63 : decode b_M_hit_II 63 = .ok (.lload 9, 2) := by decide +kernel
theorem d_M_hit_II_65 : decode b_M_hit_II 65 = .ok (.iconst 1, 1) := by decide +kernel
theorem d_M_hit_II_66 : decode b_M_hit_II 66 = .ok (.invokestatic 110, 3) := by decide +kernel
theorem d_M_hit_II_69 : decode b_M_hit_II 69 = .ok (.invokestatic 229, 3) := by decide +kernel
theorem d_M_hit_II_72 : decode b_M_hit_II 72 = .ok (.invokestatic 116, 3) := by decide +kernel
theorem d_M_hit_II_75 : decode b_M_hit_II 75 = .ok (.iconst (-1), 1) := by decide +kernel
theorem d_M_hit_II_76 : decode b_M_hit_II 76 = .ok (.if_icmp .ne 13, 3) := by decide +kernel
theorem d_M_hit_II_79 : decode b_M_hit_II 79 = .ok (.lload 7, 2) := by decide +kernel
theorem d_M_hit_II_81 : decode b_M_hit_II 81 = .ok (.lconst 0, 1) := by decide +kernel
theorem d_M_hit_II_82 : decode b_M_hit_II 82 = .ok (.invokestatic 116, 3) := by decide +kernel
theorem d_M_hit_II_85 : decode b_M_hit_II 85 = .ok (.iconst 1, 1) := by decide +kernel
theorem d_M_hit_II_86 : decode b_M_hit_II 86 = .ok (.if_icmp .eq 4, 3) := by decide +kernel
theorem d_M_hit_II_89 : decode b_M_hit_II 89 = .ok (.return_, 1) := by decide +kernel
theorem d_M_hit_II_90 : decode b_M_hit_II 90 = .ok (.aload_n 0, 1) := by decide +kernel
theorem d_M_hit_II_91 : decode b_M_hit_II 91 = .ok (.getfield 140, 3) := by decide +kernel
theorem d_M_hit_II_94 : decode b_M_hit_II 94 = .ok (.iload_n 1, 1) := by decide +kernel
theorem d_M_hit_II_95 : decode b_M_hit_II 95 = .ok (.laload, 1) := by decide +kernel
theorem d_M_hit_II_96 : decode b_M_hit_II 96 = .ok (.aload_n 0, 1) := by decide +kernel
theorem d_M_hit_II_97 : decode b_M_hit_II 97 = .ok (.getfield 140, 3) := by decide +kernel
theorem d_M_hit_II_100 : decode b_M_hit_II 100 = .ok (.iload_n 2, 1) := by decide +kernel
theorem d_M_hit_II_101 : decode b_M_hit_II 101 = .ok (.laload, 1) := by decide +kernel
theorem d_M_hit_II_102 : decode b_M_hit_II 102 = .ok (.invokestatic 218, 3) := by decide +kernel
theorem d_M_hit_II_105 : decode b_M_hit_II 105 = .ok (.lload_n 3, 1) := by decide +kernel
theorem d_M_hit_II_106 : decode b_M_hit_II 106 = .ok (.invokestatic 216, 3) := by decide +kernel
theorem d_M_hit_II_109 : decode b_M_hit_II 109 = .ok (.aload_n 0, 1) := by decide +kernel
theorem d_M_hit_II_110 : decode b_M_hit_II 110 = .ok (.getfield 143, 3) := by decide +kernel
theorem d_M_hit_II_113 : decode b_M_hit_II 113 = .ok (.iload_n 1, 1) := by decide +kernel
theorem d_M_hit_II_114 : decode b_M_hit_II 114 = .ok (.laload, 1) := by decide +kernel
theorem d_M_hit_II_115 : decode b_M_hit_II 115 = .ok (.aload_n 0, 1) := by decide +kernel
theorem d_M_hit_II_116 : decode b_M_hit_II 116 = .ok (.getfield 143, 3) := by decide +kernel
theorem d_M_hit_II_119 : decode b_M_hit_II 119 = .ok (.iload_n 2, 1) := by decide +kernel
theorem d_M_hit_II_120 : decode b_M_hit_II 120 = .ok (.laload, 1) := by decide +kernel
theorem d_M_hit_II_121 : decode b_M_hit_II 121 = .ok (.invokestatic 218, 3) := by decide +kernel
theorem d_M_hit_II_124 : decode b_M_hit_II 124 = .ok (.lload 5, 2) := by decide +kernel
theorem d_M_hit_II_126 : decode b_M_hit_II 126 = .ok (.invokestatic 216, 3) := by decide +kernel
theorem d_M_hit_II_129 : decode b_M_hit_II 129 = .ok (.invokestatic 123, 3) := by decide +kernel
theorem d_M_hit_II_132 : decode b_M_hit_II 132 = .ok (.lload 7, 2) := by decide +kernel
theorem d_M_hit_II_134 : decode b_M_hit_II 134 = .ok (.invokestatic 121, 3) := by decide +kernel
theorem d_M_hit_II_137 : decode b_M_hit_II 137 = .ok (.lstore 11, 2) := by decide +kernel
theorem d_M_hit_II_139 : decode b_M_hit_II 139 = .ok (.lload 11, 2) := by decide +kernel
theorem d_M_hit_II_141 : decode b_M_hit_II 141 = .ok (.lconst 0, 1) := by decide +kernel
theorem d_M_hit_II_142 : decode b_M_hit_II 142 = .ok (.invokestatic 116, 3) := by decide +kernel
theorem d_M_hit_II_145 : decode b_M_hit_II 145 = .ok (.iconst 1, 1) := by decide +kernel
theorem d_M_hit_II_146 : decode b_M_hit_II 146 = .ok (.if_icmp .eq 4, 3) := by decide +kernel
theorem d_M_hit_II_149 : decode b_M_hit_II 149 = .ok (.return_, 1) := by decide +kernel
theorem d_M_hit_II_150 : decode b_M_hit_II 150 = .ok (.ldc2_w 125, 3) := by decide +kernel
theorem d_M_hit_II_153 : decode b_M_hit_II 153 = .ok (.lload 11, 2) := by decide +kernel
theorem d_M_hit_II_155 : decode b_M_hit_II 155 = .ok (.invokestatic 216, 3) := by decide +kernel
theorem d_M_hit_II_158 : decode b_M_hit_II 158 = .ok (.aload_n 0, 1) := by decide +kernel
theorem d_M_hit_II_159 : decode b_M_hit_II 159 = .ok (.getfield 146, 3) := by decide +kernel
theorem d_M_hit_II_162 : decode b_M_hit_II 162 = .ok (.iload_n 1, 1) := by decide +kernel
theorem d_M_hit_II_163 : decode b_M_hit_II 163 = .ok (.laload, 1) := by decide +kernel
theorem d_M_hit_II_164 : decode b_M_hit_II 164 = .ok (.aload_n 0, 1) := by decide +kernel
theorem d_M_hit_II_165 : decode b_M_hit_II 165 = .ok (.getfield 146, 3) := by decide +kernel
theorem d_M_hit_II_168 : decode b_M_hit_II 168 = .ok (.iload_n 2, 1) := by decide +kernel
theorem d_M_hit_II_169 : decode b_M_hit_II 169 = .ok (.laload, 1) := by decide +kernel
theorem d_M_hit_II_170 : decode b_M_hit_II 170 = .ok (.iconst 1, 1) := by decide +kernel
theorem d_M_hit_II_171 : decode b_M_hit_II 171 = .ok (.invokestatic 82, 3) := by decide +kernel
theorem d_M_hit_II_174 : decode b_M_hit_II 174 = .ok (.invokestatic 229, 3) := by decide +kernel
theorem d_M_hit_II_177 : decode b_M_hit_II 177 = .ok (.invokestatic 121, 3) := by decide +kernel
theorem d_M_hit_II_180 : decode b_M_hit_II 180 = .ok (.lstore 13, 2) := by decide +kernel
theorem d_M_hit_II_182 : decode b_M_hit_II 182 = .ok (.lload 13, 2) := by decide +kernel
theorem d_M_hit_II_184 : decode b_M_hit_II 184 = .ok (.aload_n 0, 1) := by decide +kernel
theorem d_M_hit_II_185 : decode b_M_hit_II 185 = .ok (.getfield 146, 3) := by decide +kernel
theorem d_M_hit_II_188 : decode b_M_hit_II 188 = .ok (.iload_n 1, 1) := by decide +kernel
theorem d_M_hit_II_189 : decode b_M_hit_II 189 = .ok (.laload, 1) := by decide +kernel
theorem d_M_hit_II_190 : decode b_M_hit_II 190 = .ok (.invokestatic 229, 3) := by decide +kernel
theorem d_M_hit_II_193 : decode b_M_hit_II 193 = .ok (.invokestatic 216, 3) := by decide +kernel
theorem d_M_hit_II_196 : decode b_M_hit_II 196 = .ok (.lstore 15, 2) := by decide +kernel
theorem d_M_hit_II_198 : decode b_M_hit_II 198 = .ok (.lload 13, 2) := by decide +kernel
theorem d_M_hit_II_200 : decode b_M_hit_II 200 = .ok (.aload_n 0, 1) := by decide +kernel
theorem d_M_hit_II_201 : decode b_M_hit_II 201 = .ok (.getfield 146, 3) := by decide +kernel
theorem d_M_hit_II_204 : decode b_M_hit_II 204 = .ok (.iload_n 2, 1) := by decide +kernel
theorem d_M_hit_II_205 : decode b_M_hit_II 205 = .ok (.laload, 1) := by decide +kernel
theorem d_M_hit_II_206 : decode b_M_hit_II 206 = .ok (.invokestatic 229, 3) := by decide +kernel
theorem d_M_hit_II_209 : decode b_M_hit_II 209 = .ok (.invokestatic 216, 3) := by decide +kernel
theorem d_M_hit_II_212 : decode b_M_hit_II 212 = .ok (.lstore 17, 2) := by decide +kernel
theorem d_M_hit_II_214 : decode b_M_hit_II 214 = .ok (.aload_n 0, 1) := by decide +kernel
theorem d_M_hit_II_215 : decode b_M_hit_II 215 = .ok (.getfield 140, 3) := by decide +kernel
theorem d_M_hit_II_218 : decode b_M_hit_II 218 = .ok (.iload_n 1, 1) := by decide +kernel
theorem d_M_hit_II_219 : decode b_M_hit_II 219 = .ok (.aload_n 0, 1) := by decide +kernel
theorem d_M_hit_II_220 : decode b_M_hit_II 220 = .ok (.getfield 140, 3) := by decide +kernel
theorem d_M_hit_II_223 : decode b_M_hit_II 223 = .ok (.iload_n 1, 1) := by decide +kernel
theorem d_M_hit_II_224 : decode b_M_hit_II 224 = .ok (.laload, 1) := by decide +kernel
theorem d_M_hit_II_225 : decode b_M_hit_II 225 = .ok (.lload 17, 2) := by decide +kernel
theorem d_M_hit_II_227 : decode b_M_hit_II 227 = .ok (.lload_n 3, 1) := by decide +kernel
theorem d_M_hit_II_228 : decode b_M_hit_II 228 = .ok (.invokestatic 216, 3) := by decide +kernel
theorem d_M_hit_II_231 : decode b_M_hit_II 231 = .ok (.invokestatic 218, 3) := by decide +kernel
theorem d_M_hit_II_234 : decode b_M_hit_II 234 = .ok (.lastore, 1) := by decide +kernel
theorem d_M_hit_II_235 : decode b_M_hit_II 235 = .ok (.aload_n 0, 1) := by decide +kernel
theorem d_M_hit_II_236 : decode b_M_hit_II 236 = .ok (.getfield 143, 3) := by decide +kernel
theorem d_M_hit_II_239 : decode b_M_hit_II 239 = .ok (.iload_n 1, 1) := by decide +kernel
theorem d_M_hit_II_240 : decode b_M_hit_II 240 = .ok (.aload_n 0, 1) := by decide +kernel
theorem d_M_hit_II_241 : decode b_M_hit_II 241 = .ok (.getfield 143, 3) := by decide +kernel
theorem d_M_hit_II_244 : decode b_M_hit_II 244 = .ok (.iload_n 1, 1) := by decide +kernel
theorem d_M_hit_II_245 : decode b_M_hit_II 245 = .ok (.laload, 1) := by decide +kernel
theorem d_M_hit_II_246 : decode b_M_hit_II 246 = .ok (.lload 17, 2) := by decide +kernel
theorem d_M_hit_II_248 : decode b_M_hit_II 248 = .ok (.lload 5, 2) := by decide +kernel
theorem d_M_hit_II_250 : decode b_M_hit_II 250 = .ok (.invokestatic 216, 3) := by decide +kernel
theorem d_M_hit_II_253 : decode b_M_hit_II 253 = .ok (.invokestatic 218, 3) := by decide +kernel
theorem d_M_hit_II_256 : decode b_M_hit_II 256 = .ok (.lastore, 1) := by decide +kernel
theorem d_M_hit_II_257 : decode b_M_hit_II 257 = .ok (.aload_n 0, 1) := by decide +kernel
theorem d_M_hit_II_258 : decode b_M_hit_II 258 = .ok (.getfield 140, 3) := by decide +kernel
theorem d_M_hit_II_261 : decode b_M_hit_II 261 = .ok (.iload_n 2, 1) := by decide +kernel
theorem d_M_hit_II_262 : decode b_M_hit_II 262 = .ok (.aload_n 0, 1) := by decide +kernel
theorem d_M_hit_II_263 : decode b_M_hit_II 263 = .ok (.getfield 140, 3) := by decide +kernel
theorem d_M_hit_II_266 : decode b_M_hit_II 266 = .ok (.iload_n 2, 1) := by decide +kernel
theorem d_M_hit_II_267 : decode b_M_hit_II 267 = .ok (.laload, 1) := by decide +kernel
theorem d_M_hit_II_268 : decode b_M_hit_II 268 = .ok (.lload 15, 2) := by decide +kernel
theorem d_M_hit_II_270 : decode b_M_hit_II 270 = .ok (.lload_n 3, 1) := by decide +kernel
theorem d_M_hit_II_271 : decode b_M_hit_II 271 = .ok (.invokestatic 216, 3) := by decide +kernel
theorem d_M_hit_II_274 : decode b_M_hit_II 274 = .ok (.invokestatic 123, 3) := by decide +kernel
theorem d_M_hit_II_277 : decode b_M_hit_II 277 = .ok (.lastore, 1) := by decide +kernel
theorem d_M_hit_II_278 : decode b_M_hit_II 278 = .ok (.aload_n 0, 1) := by decide +kernel
theorem d_M_hit_II_279 : decode b_M_hit_II 279 = .ok (.getfield 143, 3) := by decide +kernel
theorem d_M_hit_II_282 : decode b_M_hit_II 282 = .ok (.iload_n 2, 1) := by decide +kernel
theorem d_M_hit_II_283 : decode b_M_hit_II 283 = .ok (.aload_n 0, 1) := by decide +kernel
theorem d_M_hit_II_284 : decode b_M_hit_II 284 = .ok (.getfield 143, 3) := by decide +kernel
theorem d_M_hit_II_287 : decode b_M_hit_II 287 = .ok (.iload_n 2, 1) := by decide +kernel
theorem d_M_hit_II_288 : decode b_M_hit_II 288 = .ok (.laload, 1) := by decide +kernel
theorem d_M_hit_II_289 : decode b_M_hit_II 289 = .ok (.lload 15, 2) := by decide +kernel
theorem d_M_hit_II_291 : decode b_M_hit_II 291 = .ok (.lload 5, 2) := by decide +kernel
theorem d_M_hit_II_293 : decode b_M_hit_II 293 = .ok (.invokestatic 216, 3) := by decide +kernel
theorem d_M_hit_II_296 : decode b_M_hit_II 296 = .ok (.invokestatic 123, 3) := by decide +kernel
theorem d_M_hit_II_299 : decode b_M_hit_II 299 = .ok (.lastore, 1) := by decide +kernel
theorem d_M_hit_II_300 : decode b_M_hit_II 300 = .ok (.return_, 1) := by decide +kernel
def f_M_hit_II (S : MS) (x1 : Int32) (x2 : Int32) : MS :=
  let v1 : Int64 := f_M_subtract_JJ (m_x S x2.toNatClampNeg) (m_x S x1.toNatClampNeg)
  let v2 : Int64 := f_M_subtract_JJ (m_y S x2.toNatClampNeg) (m_y S x1.toNatClampNeg)
  let v3 : Int64 := f_M_square_JJ v1 v2
  let v4 : Int64 := f_M_add_JJI (m_r S x1.toNatClampNeg) (m_r S x2.toNatClampNeg) (1 : Int32)
  if (f_M_order_JJ v3 (f_M_toDouble_J (f_M_multiply_JJI v4 v4 (1 : Int32)))) = (-1 : Int32) then
    if (f_M_order_JJ v3 (0 : Int64)) = (1 : Int32) then
      let v7 : Int64 := f_M_divide_JJ (f_M_add_JJ (f_M_multiply_JJ (f_M_subtract_JJ (m_u S x1.toNatClampNeg) (m_u S x2.toNatClampNeg)) v1) (f_M_multiply_JJ (f_M_subtract_JJ (m_v S x1.toNatClampNeg) (m_v S x2.toNatClampNeg)) v2)) v3
      if (f_M_order_JJ v7 (0 : Int64)) = (1 : Int32) then
        let v9 : Int64 := f_M_divide_JJ (f_M_multiply_JJ (4611686018427387904 : Int64) v7) (f_M_toDouble_J (f_M_add_JJI (m_m S x1.toNatClampNeg) (m_m S x2.toNatClampNeg) (1 : Int32)))
        let v10 : Int64 := f_M_multiply_JJ v9 (f_M_toDouble_J (m_m S x1.toNatClampNeg))
        let v11 : Int64 := f_M_multiply_JJ v9 (f_M_toDouble_J (m_m S x2.toNatClampNeg))
        let S12 : MS := u_m_u S (vp_updL (m_u S) x1.toNatClampNeg (f_M_subtract_JJ (m_u S x1.toNatClampNeg) (f_M_multiply_JJ v11 v1)))
        let S13 : MS := u_m_v S12 (vp_updL (m_v S12) x1.toNatClampNeg (f_M_subtract_JJ (m_v S12 x1.toNatClampNeg) (f_M_multiply_JJ v11 v2)))
        let S14 : MS := u_m_u S13 (vp_updL (m_u S13) x2.toNatClampNeg (f_M_add_JJ (m_u S13 x2.toNatClampNeg) (f_M_multiply_JJ v10 v1)))
        let S15 : MS := u_m_v S14 (vp_updL (m_v S14) x2.toNatClampNeg (f_M_add_JJ (m_v S14 x2.toNatClampNeg) (f_M_multiply_JJ v10 v2)))
        S15
      else
        S
    else
      S
  else
    S
set_option maxHeartbeats 2000000 in
set_option maxRecDepth 100000 in
theorem c_M_hit_II (l : Launch) (dC : Nat → ClassId) (dI : Nat → Nat → Nat) (ad : Nat → Nat) (cJ cI : ClassId) (t0 t1 t2 : Nat) (S : MS) (x1 : Int32) (x2 : Int32) (hk_x1 : vp_in x1 8) (hk_x2 : vp_in x2 8) (sz : Nat) : hMv l y_M_hit_II (gw y_M_hit_II b_M_hit_II 19 none) { frames := 7, cells := 0, slots := 0, locals := 191 } [.ref (ad 0), .int x1, .int x2] (dC, dI) classes (tysJI cJ cI) (hE_M t0 t1 t2 (mW ad cJ cI S) sz) (mW ad cJ cI S) sz (mW ad cJ cI (f_M_hit_II S x1 x2)) := by
  refine Met.ofW (cc := b_M_hit_II) (maxL := 19) (ret := none) (by decide) rfl ?_
  intro p e s m args below meth c s₁ B hml hv
  obtain ⟨rfl, hsz, hP, hK, hD0, hRT⟩ := hv
  have hx := B.exec
  have hb := B.bytes
  have hr := B.returns
  have hts := atoms_spec (ws := (gw y_M_hit_II b_M_hit_II 19 none)) B.pre
  have hown : s.vm.findClass "MotionLabModel" = some m.cls := findClass_of_methodNamed B.named
  have hlocks := B.notSynchronized
  subst hsz
  have hD := hD0.self (sz := s.heap.size)
  have hRT : RTA t0 t1 t2 (va_A (mW ad cJ cI S) s.heap.size) s s.heap := hRT
  generalize hAe : va_A (mW ad cJ cI S) s.heap.size = A at hD hRT
  have hA : ∀ q : Nat, s.heap.size ≤ q → A q := fun q h => by rw [← hAe]; exact Or.inr h
  have G : hG (dC, dI) classes A s.heap (mW ad cJ cI S) s.heap [] := ⟨hP, hD, va_S.rf⟩
  have hl := lv_entry ([.ref (ad 0), .int x1, .int x2]) (n := 19) (Nat.le_of_ble_eq_true rfl)
  rw [lg_entry_eq]
  generalize (lg_sl ([.ref (ad 0), .int x1, .int x2]) ++ List.replicate (19 - (lg_sl ([.ref (ad 0), .int x1, .int x2])).length) Slot.unset).toArray = ls at hl ⊢
  have hl : lv_has ls 19 [(0, .ref (ad 0)), (1, .int x1), (2, .int x2)] := hl
  refine lv_aload_n hx hb d_M_hit_II_0 rfl (lv_at hl 0 rfl) ?_
  refine va_get (D := (dC, dI)) (ci := 3) (v := .ref (ad 1)) (C := R_M) (T := F_M) (N := 21) hx hb hts (fun w h => gm (i_M w h)) hown hK G.1 0 rfl rfl 0 (by decide) (hts _ (gm tw_421)) (fun _ h9 => h9) rfl d_M_hit_II_1 ?_
  refine lv_iload_n hx hb d_M_hit_II_4 rfl (lv_at hl 2 rfl) ?_
  refine va_lald hx hb hK G.1 1 0 rfl rfl hk_x2 d_M_hit_II_5 ?_
  refine lv_aload_n hx hb d_M_hit_II_6 rfl (lv_at hl 0 rfl) ?_
  refine va_get (D := (dC, dI)) (ci := 3) (v := .ref (ad 1)) (C := R_M) (T := F_M) (N := 21) hx hb hts (fun w h => gm (i_M w h)) hown hK G.1 0 rfl rfl 0 (by decide) (hts _ (gm tw_421)) (fun _ h9 => h9) rfl d_M_hit_II_7 ?_
  refine lv_iload_n hx hb d_M_hit_II_10 rfl (lv_at hl 1 rfl) ?_
  refine va_lald hx hb hK G.1 1 0 rfl rfl hk_x1 d_M_hit_II_11 ?_
  refine pu_l (As := [.long (m_x S x2.toNatClampNeg), .long (m_x S x1.toNatClampNeg)]) (rest := []) ⟨hx, hb, hml, hown, hts⟩ (c_M_subtract_JJ l _ t0 t1 t2 (m_x S x2.toNatClampNeg) (m_x S x1.toNatClampNeg)) (pr_pre (hx_R hRT G)) (gw_call (k := 2) hts tw_588 tw_589 tw_4 tw_590 (by decide +kernel) rfl rfl ⟨Nat.le_of_ble_eq_true rfl, Nat.le_of_ble_eq_true rfl⟩) rfl hl.1 rfl (Nat.le_of_ble_eq_true rfl) ⟨Nat.zero_le _, Nat.zero_le _⟩ d_M_hit_II_12 ?_
  refine lv_topl (fun v1 e1 => ?_)
  refine lv_lstore_n (lv' := [(3, .long v1), (0, .ref (ad 0)), (1, .int x1), (2, .int x2)]) hx hb d_M_hit_II_15 rfl hl (by decide) rfl (fun ls hl => ?_)
  refine lv_aload_n hx hb d_M_hit_II_16 rfl (lv_at hl 1 rfl) ?_
  refine va_get (D := (dC, dI)) (ci := 3) (v := .ref (ad 2)) (C := R_M) (T := F_M) (N := 21) hx hb hts (fun w h => gm (i_M w h)) hown hK G.1 0 rfl rfl 1 (by decide) (hts _ (gm tw_422)) (fun _ h9 => h9) rfl d_M_hit_II_17 ?_
  refine lv_iload_n hx hb d_M_hit_II_20 rfl (lv_at hl 3 rfl) ?_
  refine va_lald hx hb hK G.1 2 0 rfl rfl hk_x2 d_M_hit_II_21 ?_
  refine lv_aload_n hx hb d_M_hit_II_22 rfl (lv_at hl 1 rfl) ?_
  refine va_get (D := (dC, dI)) (ci := 3) (v := .ref (ad 2)) (C := R_M) (T := F_M) (N := 21) hx hb hts (fun w h => gm (i_M w h)) hown hK G.1 0 rfl rfl 1 (by decide) (hts _ (gm tw_422)) (fun _ h9 => h9) rfl d_M_hit_II_23 ?_
  refine lv_iload_n hx hb d_M_hit_II_26 rfl (lv_at hl 2 rfl) ?_
  refine va_lald hx hb hK G.1 2 0 rfl rfl hk_x1 d_M_hit_II_27 ?_
  refine pu_l (As := [.long (m_y S x2.toNatClampNeg), .long (m_y S x1.toNatClampNeg)]) (rest := []) ⟨hx, hb, hml, hown, hts⟩ (c_M_subtract_JJ l _ t0 t1 t2 (m_y S x2.toNatClampNeg) (m_y S x1.toNatClampNeg)) (pr_pre (hx_R hRT G)) (gw_call (k := 2) hts tw_588 tw_589 tw_4 tw_590 (by decide +kernel) rfl rfl ⟨Nat.le_of_ble_eq_true rfl, Nat.le_of_ble_eq_true rfl⟩) rfl hl.1 rfl (Nat.le_of_ble_eq_true rfl) ⟨Nat.zero_le _, Nat.zero_le _⟩ d_M_hit_II_28 ?_
  refine lv_topl (fun v2 e2 => ?_)
  refine lv_lstore (lv' := [(5, .long v2), (3, .long v1), (0, .ref (ad 0)), (1, .int x1), (2, .int x2)]) hx hb d_M_hit_II_31 hl (by decide) rfl (fun ls hl => ?_)
  refine lv_lload_n hx hb d_M_hit_II_33 rfl (lv_at hl 1 rfl) ?_
  refine lv_lload hx hb d_M_hit_II_34 (lv_at hl 0 rfl) ?_
  refine pu_l (As := [.long v1, .long v2]) (rest := []) ⟨hx, hb, hml, hown, hts⟩ (c_M_square_JJ l _ t0 t1 t2 v1 v2) (pr_pre (hx_R hRT G)) (gw_call (k := 2) hts tw_608 tw_609 tw_4 tw_610 (by decide +kernel) rfl rfl ⟨Nat.le_of_ble_eq_true rfl, Nat.le_of_ble_eq_true rfl⟩) rfl hl.1 rfl (Nat.le_of_ble_eq_true rfl) ⟨Nat.zero_le _, Nat.zero_le _⟩ d_M_hit_II_36 ?_
  refine lv_topl (fun v3 e3 => ?_)
  refine lv_lstore (lv' := [(7, .long v3), (5, .long v2), (3, .long v1), (0, .ref (ad 0)), (1, .int x1), (2, .int x2)]) hx hb d_M_hit_II_39 hl (by decide) rfl (fun ls hl => ?_)
  refine lv_aload_n hx hb d_M_hit_II_41 rfl (lv_at hl 3 rfl) ?_
  refine va_get (D := (dC, dI)) (ci := 3) (v := .ref (ad 6)) (C := R_M) (T := F_M) (N := 21) hx hb hts (fun w h => gm (i_M w h)) hown hK G.1 0 rfl rfl 5 (by decide) (hts _ (gm tw_426)) (fun _ h9 => h9) rfl d_M_hit_II_42 ?_
  refine lv_iload_n hx hb d_M_hit_II_45 rfl (lv_at hl 4 rfl) ?_
  refine va_lald hx hb hK G.1 6 0 rfl rfl hk_x1 d_M_hit_II_46 ?_
  refine lv_aload_n hx hb d_M_hit_II_47 rfl (lv_at hl 3 rfl) ?_
  refine va_get (D := (dC, dI)) (ci := 3) (v := .ref (ad 6)) (C := R_M) (T := F_M) (N := 21) hx hb hts (fun w h => gm (i_M w h)) hown hK G.1 0 rfl rfl 5 (by decide) (hts _ (gm tw_426)) (fun _ h9 => h9) rfl d_M_hit_II_48 ?_
  refine lv_iload_n hx hb d_M_hit_II_51 rfl (lv_at hl 5 rfl) ?_
  refine va_lald hx hb hK G.1 6 0 rfl rfl hk_x2 d_M_hit_II_52 ?_
  refine lv_iconst (v := 1) hx hb d_M_hit_II_53 (by decide) ?_
  refine pu_l (As := [.long (m_r S x1.toNatClampNeg), .long (m_r S x2.toNatClampNeg), .int (1 : Int32)]) (rest := []) ⟨hx, hb, hml, hown, hts⟩ (c_M_add_JJI l _ t0 t1 t2 (m_r S x1.toNatClampNeg) (m_r S x2.toNatClampNeg) (1 : Int32) (in_of (by decide) (by decide))) (pr_pre (hx_R hRT G)) (gw_call (k := 3) hts tw_597 tw_598 tw_4 tw_599 (by decide +kernel) rfl rfl ⟨Nat.le_of_ble_eq_true rfl, Nat.le_of_ble_eq_true rfl⟩) rfl hl.1 rfl (Nat.le_of_ble_eq_true rfl) ⟨Nat.zero_le _, Nat.zero_le _⟩ d_M_hit_II_54 ?_
  refine lv_topl (fun v4 e4 => ?_)
  refine lv_lstore (lv' := [(9, .long v4), (7, .long v3), (5, .long v2), (3, .long v1), (0, .ref (ad 0)), (1, .int x1), (2, .int x2)]) hx hb d_M_hit_II_57 hl (by decide) rfl (fun ls hl => ?_)
  refine lv_lload hx hb d_M_hit_II_59 (lv_at hl 1 rfl) ?_
  refine lv_lload hx hb d_M_hit_II_61 (lv_at hl 0 rfl) ?_
  refine lv_lload hx hb d_M_hit_II_63 (lv_at hl 0 rfl) ?_
  refine lv_iconst (v := 1) hx hb d_M_hit_II_65 (by decide) ?_
  refine pu_l (As := [.long v4, .long v4, .int (1 : Int32)]) (rest := [.long v3]) ⟨hx, hb, hml, hown, hts⟩ (c_M_multiply_JJI l _ t0 t1 t2 v4 v4 (1 : Int32) (in_of (by decide) (by decide))) (pr_pre (hx_R hRT G)) (gw_call (k := 3) hts tw_576 tw_577 tw_4 tw_578 (by decide +kernel) rfl rfl ⟨Nat.le_of_ble_eq_true rfl, Nat.le_of_ble_eq_true rfl⟩) rfl hl.1 rfl (Nat.le_of_ble_eq_true rfl) ⟨Nat.zero_le _, Nat.zero_le _⟩ d_M_hit_II_66 ?_
  refine pu_l (As := [.long (f_M_multiply_JJI v4 v4 (1 : Int32))]) (rest := [.long v3]) ⟨hx, hb, hml, hown, hts⟩ (c_M_toDouble_J l _ t0 t1 t2 (f_M_multiply_JJI v4 v4 (1 : Int32))) (pr_pre (hx_R hRT G)) (gw_call (k := 1) hts tw_570 tw_571 tw_4 tw_572 (by decide +kernel) rfl rfl ⟨Nat.le_of_ble_eq_true rfl, Nat.le_of_ble_eq_true rfl⟩) rfl hl.1 rfl (Nat.le_of_ble_eq_true rfl) ⟨Nat.zero_le _, Nat.zero_le _⟩ d_M_hit_II_69 ?_
  refine pu_i (As := [.long v3, .long (f_M_toDouble_J (f_M_multiply_JJI v4 v4 (1 : Int32)))]) (rest := []) ⟨hx, hb, hml, hown, hts⟩ (c_M_order_JJ l _ v3 (f_M_toDouble_J (f_M_multiply_JJI v4 v4 (1 : Int32)))) pu_pre (gw_call (k := 2) hts tw_617 tw_618 tw_4 tw_619 (by decide +kernel) rfl rfl ⟨Nat.le_of_ble_eq_true rfl, Nat.le_of_ble_eq_true rfl⟩) rfl hl.1 rfl (Nat.le_of_ble_eq_true rfl) ⟨Nat.zero_le _, Nat.zero_le _⟩ d_M_hit_II_72 ?_
  refine lv_iconst (v := (-1)) hx hb d_M_hit_II_75 (by decide) ?_
  refine lv_icmp_ne (tgt := 89) hx hb d_M_hit_II_76 (by decide) (fun c5 => ?_) (fun c5 => ?_)
  · exact hg_vret hx hb hr hlocks hK hAe G (by have qe1 := e1.symm; have qe2 := e2.symm; have qe3 := e3.symm; have qe4 := e4.symm; subst qe1 qe2 qe3 qe4; unfold f_M_hit_II; dsimp only; rw [if_neg c5]) d_M_hit_II_89
  · refine lv_lload hx hb d_M_hit_II_79 (lv_at hl 1 rfl) ?_
    refine lv_lconst (v := (0 : Int64)) hx hb d_M_hit_II_81 (by decide) ?_
    refine pu_i (As := [.long v3, .long (0 : Int64)]) (rest := []) ⟨hx, hb, hml, hown, hts⟩ (c_M_order_JJ l _ v3 (0 : Int64)) pu_pre (gw_call (k := 2) hts tw_617 tw_618 tw_4 tw_619 (by decide +kernel) rfl rfl ⟨Nat.le_of_ble_eq_true rfl, Nat.le_of_ble_eq_true rfl⟩) rfl hl.1 rfl (Nat.le_of_ble_eq_true rfl) ⟨Nat.zero_le _, Nat.zero_le _⟩ d_M_hit_II_82 ?_
    refine lv_iconst (v := 1) hx hb d_M_hit_II_85 (by decide) ?_
    refine lv_icmp_eq (tgt := 90) hx hb d_M_hit_II_86 (by decide) (fun c6 => ?_) (fun c6 => ?_)
    · refine lv_aload_n hx hb d_M_hit_II_90 rfl (lv_at hl 4 rfl) ?_
      refine va_get (D := (dC, dI)) (ci := 3) (v := .ref (ad 3)) (C := R_M) (T := F_M) (N := 21) hx hb hts (fun w h => gm (i_M w h)) hown hK G.1 0 rfl rfl 2 (by decide) (hts _ (gm tw_423)) (fun _ h9 => h9) rfl d_M_hit_II_91 ?_
      refine lv_iload_n hx hb d_M_hit_II_94 rfl (lv_at hl 5 rfl) ?_
      refine va_lald hx hb hK G.1 3 0 rfl rfl hk_x1 d_M_hit_II_95 ?_
      refine lv_aload_n hx hb d_M_hit_II_96 rfl (lv_at hl 4 rfl) ?_
      refine va_get (D := (dC, dI)) (ci := 3) (v := .ref (ad 3)) (C := R_M) (T := F_M) (N := 21) hx hb hts (fun w h => gm (i_M w h)) hown hK G.1 0 rfl rfl 2 (by decide) (hts _ (gm tw_423)) (fun _ h9 => h9) rfl d_M_hit_II_97 ?_
      refine lv_iload_n hx hb d_M_hit_II_100 rfl (lv_at hl 6 rfl) ?_
      refine va_lald hx hb hK G.1 3 0 rfl rfl hk_x2 d_M_hit_II_101 ?_
      refine pu_l (As := [.long (m_u S x1.toNatClampNeg), .long (m_u S x2.toNatClampNeg)]) (rest := []) ⟨hx, hb, hml, hown, hts⟩ (c_M_subtract_JJ l _ t0 t1 t2 (m_u S x1.toNatClampNeg) (m_u S x2.toNatClampNeg)) (pr_pre (hx_R hRT G)) (gw_call (k := 2) hts tw_588 tw_589 tw_4 tw_590 (by decide +kernel) rfl rfl ⟨Nat.le_of_ble_eq_true rfl, Nat.le_of_ble_eq_true rfl⟩) rfl hl.1 rfl (Nat.le_of_ble_eq_true rfl) ⟨Nat.zero_le _, Nat.zero_le _⟩ d_M_hit_II_102 ?_
      refine lv_lload_n hx hb d_M_hit_II_105 rfl (lv_at hl 3 rfl) ?_
      refine pu_l (As := [.long (f_M_subtract_JJ (m_u S x1.toNatClampNeg) (m_u S x2.toNatClampNeg)), .long v1]) (rest := []) ⟨hx, hb, hml, hown, hts⟩ (c_M_multiply_JJ l _ t0 t1 t2 (f_M_subtract_JJ (m_u S x1.toNatClampNeg) (m_u S x2.toNatClampNeg)) v1) (pr_pre (hx_R hRT G)) (gw_call (k := 2) hts tw_573 tw_574 tw_4 tw_575 (by decide +kernel) rfl rfl ⟨Nat.le_of_ble_eq_true rfl, Nat.le_of_ble_eq_true rfl⟩) rfl hl.1 rfl (Nat.le_of_ble_eq_true rfl) ⟨Nat.zero_le _, Nat.zero_le _⟩ d_M_hit_II_106 ?_
      refine lv_aload_n hx hb d_M_hit_II_109 rfl (lv_at hl 4 rfl) ?_
      refine va_get (D := (dC, dI)) (ci := 3) (v := .ref (ad 4)) (C := R_M) (T := F_M) (N := 21) hx hb hts (fun w h => gm (i_M w h)) hown hK G.1 0 rfl rfl 3 (by decide) (hts _ (gm tw_424)) (fun _ h9 => h9) rfl d_M_hit_II_110 ?_
      refine lv_iload_n hx hb d_M_hit_II_113 rfl (lv_at hl 5 rfl) ?_
      refine va_lald hx hb hK G.1 4 0 rfl rfl hk_x1 d_M_hit_II_114 ?_
      refine lv_aload_n hx hb d_M_hit_II_115 rfl (lv_at hl 4 rfl) ?_
      refine va_get (D := (dC, dI)) (ci := 3) (v := .ref (ad 4)) (C := R_M) (T := F_M) (N := 21) hx hb hts (fun w h => gm (i_M w h)) hown hK G.1 0 rfl rfl 3 (by decide) (hts _ (gm tw_424)) (fun _ h9 => h9) rfl d_M_hit_II_116 ?_
      refine lv_iload_n hx hb d_M_hit_II_119 rfl (lv_at hl 6 rfl) ?_
      refine va_lald hx hb hK G.1 4 0 rfl rfl hk_x2 d_M_hit_II_120 ?_
      refine pu_l (As := [.long (m_v S x1.toNatClampNeg), .long (m_v S x2.toNatClampNeg)]) (rest := [.long (f_M_multiply_JJ (f_M_subtract_JJ (m_u S x1.toNatClampNeg) (m_u S x2.toNatClampNeg)) v1)]) ⟨hx, hb, hml, hown, hts⟩ (c_M_subtract_JJ l _ t0 t1 t2 (m_v S x1.toNatClampNeg) (m_v S x2.toNatClampNeg)) (pr_pre (hx_R hRT G)) (gw_call (k := 2) hts tw_588 tw_589 tw_4 tw_590 (by decide +kernel) rfl rfl ⟨Nat.le_of_ble_eq_true rfl, Nat.le_of_ble_eq_true rfl⟩) rfl hl.1 rfl (Nat.le_of_ble_eq_true rfl) ⟨Nat.zero_le _, Nat.zero_le _⟩ d_M_hit_II_121 ?_
      refine lv_lload hx hb d_M_hit_II_124 (lv_at hl 2 rfl) ?_
      refine pu_l (As := [.long (f_M_subtract_JJ (m_v S x1.toNatClampNeg) (m_v S x2.toNatClampNeg)), .long v2]) (rest := [.long (f_M_multiply_JJ (f_M_subtract_JJ (m_u S x1.toNatClampNeg) (m_u S x2.toNatClampNeg)) v1)]) ⟨hx, hb, hml, hown, hts⟩ (c_M_multiply_JJ l _ t0 t1 t2 (f_M_subtract_JJ (m_v S x1.toNatClampNeg) (m_v S x2.toNatClampNeg)) v2) (pr_pre (hx_R hRT G)) (gw_call (k := 2) hts tw_573 tw_574 tw_4 tw_575 (by decide +kernel) rfl rfl ⟨Nat.le_of_ble_eq_true rfl, Nat.le_of_ble_eq_true rfl⟩) rfl hl.1 rfl (Nat.le_of_ble_eq_true rfl) ⟨Nat.zero_le _, Nat.zero_le _⟩ d_M_hit_II_126 ?_
      refine pu_l (As := [.long (f_M_multiply_JJ (f_M_subtract_JJ (m_u S x1.toNatClampNeg) (m_u S x2.toNatClampNeg)) v1), .long (f_M_multiply_JJ (f_M_subtract_JJ (m_v S x1.toNatClampNeg) (m_v S x2.toNatClampNeg)) v2)]) (rest := []) ⟨hx, hb, hml, hown, hts⟩ (c_M_add_JJ l _ t0 t1 t2 (f_M_multiply_JJ (f_M_subtract_JJ (m_u S x1.toNatClampNeg) (m_u S x2.toNatClampNeg)) v1) (f_M_multiply_JJ (f_M_subtract_JJ (m_v S x1.toNatClampNeg) (m_v S x2.toNatClampNeg)) v2)) (pr_pre (hx_R hRT G)) (gw_call (k := 2) hts tw_611 tw_612 tw_4 tw_613 (by decide +kernel) rfl rfl ⟨Nat.le_of_ble_eq_true rfl, Nat.le_of_ble_eq_true rfl⟩) rfl hl.1 rfl (Nat.le_of_ble_eq_true rfl) ⟨Nat.zero_le _, Nat.zero_le _⟩ d_M_hit_II_129 ?_
      refine lv_lload hx hb d_M_hit_II_132 (lv_at hl 1 rfl) ?_
      refine pu_l (As := [.long (f_M_add_JJ (f_M_multiply_JJ (f_M_subtract_JJ (m_u S x1.toNatClampNeg) (m_u S x2.toNatClampNeg)) v1) (f_M_multiply_JJ (f_M_subtract_JJ (m_v S x1.toNatClampNeg) (m_v S x2.toNatClampNeg)) v2)), .long v3]) (rest := []) ⟨hx, hb, hml, hown, hts⟩ (c_M_divide_JJ l _ t0 t1 t2 (f_M_add_JJ (f_M_multiply_JJ (f_M_subtract_JJ (m_u S x1.toNatClampNeg) (m_u S x2.toNatClampNeg)) v1) (f_M_multiply_JJ (f_M_subtract_JJ (m_v S x1.toNatClampNeg) (m_v S x2.toNatClampNeg)) v2)) v3) (pr_pre (hx_R hRT G)) (gw_call (k := 2) hts tw_624 tw_625 tw_4 tw_626 (by decide +kernel) rfl rfl ⟨Nat.le_of_ble_eq_true rfl, Nat.le_of_ble_eq_true rfl⟩) rfl hl.1 rfl (Nat.le_of_ble_eq_true rfl) ⟨Nat.zero_le _, Nat.zero_le _⟩ d_M_hit_II_134 ?_
      refine lv_topl (fun v7 e7 => ?_)
      refine lv_lstore (lv' := [(11, .long v7), (9, .long v4), (7, .long v3), (5, .long v2), (3, .long v1), (0, .ref (ad 0)), (1, .int x1), (2, .int x2)]) hx hb d_M_hit_II_137 hl (by decide) rfl (fun ls hl => ?_)
      refine lv_lload hx hb d_M_hit_II_139 (lv_at hl 0 rfl) ?_
      refine lv_lconst (v := (0 : Int64)) hx hb d_M_hit_II_141 (by decide) ?_
      refine pu_i (As := [.long v7, .long (0 : Int64)]) (rest := []) ⟨hx, hb, hml, hown, hts⟩ (c_M_order_JJ l _ v7 (0 : Int64)) pu_pre (gw_call (k := 2) hts tw_617 tw_618 tw_4 tw_619 (by decide +kernel) rfl rfl ⟨Nat.le_of_ble_eq_true rfl, Nat.le_of_ble_eq_true rfl⟩) rfl hl.1 rfl (Nat.le_of_ble_eq_true rfl) ⟨Nat.zero_le _, Nat.zero_le _⟩ d_M_hit_II_142 ?_
      refine lv_iconst (v := 1) hx hb d_M_hit_II_145 (by decide) ?_
      refine lv_icmp_eq (tgt := 150) hx hb d_M_hit_II_146 (by decide) (fun c8 => ?_) (fun c8 => ?_)
      · refine lv_ldc2 (v := (4611686018427387904 : Int64)) hx hb hown (hts _ (gm tw_630)) d_M_hit_II_150 ?_
        refine lv_lload hx hb d_M_hit_II_153 (lv_at hl 0 rfl) ?_
        refine pu_l (As := [.long (4611686018427387904 : Int64), .long v7]) (rest := []) ⟨hx, hb, hml, hown, hts⟩ (c_M_multiply_JJ l _ t0 t1 t2 (4611686018427387904 : Int64) v7) (pr_pre (hx_R hRT G)) (gw_call (k := 2) hts tw_573 tw_574 tw_4 tw_575 (by decide +kernel) rfl rfl ⟨Nat.le_of_ble_eq_true rfl, Nat.le_of_ble_eq_true rfl⟩) rfl hl.1 rfl (Nat.le_of_ble_eq_true rfl) ⟨Nat.zero_le _, Nat.zero_le _⟩ d_M_hit_II_155 ?_
        refine lv_aload_n hx hb d_M_hit_II_158 rfl (lv_at hl 5 rfl) ?_
        refine va_get (D := (dC, dI)) (ci := 3) (v := .ref (ad 5)) (C := R_M) (T := F_M) (N := 21) hx hb hts (fun w h => gm (i_M w h)) hown hK G.1 0 rfl rfl 4 (by decide) (hts _ (gm tw_425)) (fun _ h9 => h9) rfl d_M_hit_II_159 ?_
        refine lv_iload_n hx hb d_M_hit_II_162 rfl (lv_at hl 6 rfl) ?_
        refine va_lald hx hb hK G.1 5 0 rfl rfl hk_x1 d_M_hit_II_163 ?_
        refine lv_aload_n hx hb d_M_hit_II_164 rfl (lv_at hl 5 rfl) ?_
        refine va_get (D := (dC, dI)) (ci := 3) (v := .ref (ad 5)) (C := R_M) (T := F_M) (N := 21) hx hb hts (fun w h => gm (i_M w h)) hown hK G.1 0 rfl rfl 4 (by decide) (hts _ (gm tw_425)) (fun _ h9 => h9) rfl d_M_hit_II_165 ?_
        refine lv_iload_n hx hb d_M_hit_II_168 rfl (lv_at hl 7 rfl) ?_
        refine va_lald hx hb hK G.1 5 0 rfl rfl hk_x2 d_M_hit_II_169 ?_
        refine lv_iconst (v := 1) hx hb d_M_hit_II_170 (by decide) ?_
        refine pu_l (As := [.long (m_m S x1.toNatClampNeg), .long (m_m S x2.toNatClampNeg), .int (1 : Int32)]) (rest := [.long (f_M_multiply_JJ (4611686018427387904 : Int64) v7)]) ⟨hx, hb, hml, hown, hts⟩ (c_M_add_JJI l _ t0 t1 t2 (m_m S x1.toNatClampNeg) (m_m S x2.toNatClampNeg) (1 : Int32) (in_of (by decide) (by decide))) (pr_pre (hx_R hRT G)) (gw_call (k := 3) hts tw_597 tw_598 tw_4 tw_599 (by decide +kernel) rfl rfl ⟨Nat.le_of_ble_eq_true rfl, Nat.le_of_ble_eq_true rfl⟩) rfl hl.1 rfl (Nat.le_of_ble_eq_true rfl) ⟨Nat.zero_le _, Nat.zero_le _⟩ d_M_hit_II_171 ?_
        refine pu_l (As := [.long (f_M_add_JJI (m_m S x1.toNatClampNeg) (m_m S x2.toNatClampNeg) (1 : Int32))]) (rest := [.long (f_M_multiply_JJ (4611686018427387904 : Int64) v7)]) ⟨hx, hb, hml, hown, hts⟩ (c_M_toDouble_J l _ t0 t1 t2 (f_M_add_JJI (m_m S x1.toNatClampNeg) (m_m S x2.toNatClampNeg) (1 : Int32))) (pr_pre (hx_R hRT G)) (gw_call (k := 1) hts tw_570 tw_571 tw_4 tw_572 (by decide +kernel) rfl rfl ⟨Nat.le_of_ble_eq_true rfl, Nat.le_of_ble_eq_true rfl⟩) rfl hl.1 rfl (Nat.le_of_ble_eq_true rfl) ⟨Nat.zero_le _, Nat.zero_le _⟩ d_M_hit_II_174 ?_
        refine pu_l (As := [.long (f_M_multiply_JJ (4611686018427387904 : Int64) v7), .long (f_M_toDouble_J (f_M_add_JJI (m_m S x1.toNatClampNeg) (m_m S x2.toNatClampNeg) (1 : Int32)))]) (rest := []) ⟨hx, hb, hml, hown, hts⟩ (c_M_divide_JJ l _ t0 t1 t2 (f_M_multiply_JJ (4611686018427387904 : Int64) v7) (f_M_toDouble_J (f_M_add_JJI (m_m S x1.toNatClampNeg) (m_m S x2.toNatClampNeg) (1 : Int32)))) (pr_pre (hx_R hRT G)) (gw_call (k := 2) hts tw_624 tw_625 tw_4 tw_626 (by decide +kernel) rfl rfl ⟨Nat.le_of_ble_eq_true rfl, Nat.le_of_ble_eq_true rfl⟩) rfl hl.1 rfl (Nat.le_of_ble_eq_true rfl) ⟨Nat.zero_le _, Nat.zero_le _⟩ d_M_hit_II_177 ?_
        refine lv_topl (fun v9 e9 => ?_)
        refine lv_lstore (lv' := [(13, .long v9), (11, .long v7), (9, .long v4), (7, .long v3), (5, .long v2), (3, .long v1), (0, .ref (ad 0)), (1, .int x1), (2, .int x2)]) hx hb d_M_hit_II_180 hl (by decide) rfl (fun ls hl => ?_)
        refine lv_lload hx hb d_M_hit_II_182 (lv_at hl 0 rfl) ?_
        refine lv_aload_n hx hb d_M_hit_II_184 rfl (lv_at hl 6 rfl) ?_
        refine va_get (D := (dC, dI)) (ci := 3) (v := .ref (ad 5)) (C := R_M) (T := F_M) (N := 21) hx hb hts (fun w h => gm (i_M w h)) hown hK G.1 0 rfl rfl 4 (by decide) (hts _ (gm tw_425)) (fun _ h9 => h9) rfl d_M_hit_II_185 ?_
        refine lv_iload_n hx hb d_M_hit_II_188 rfl (lv_at hl 7 rfl) ?_
        refine va_lald hx hb hK G.1 5 0 rfl rfl hk_x1 d_M_hit_II_189 ?_
        refine pu_l (As := [.long (m_m S x1.toNatClampNeg)]) (rest := [.long v9]) ⟨hx, hb, hml, hown, hts⟩ (c_M_toDouble_J l _ t0 t1 t2 (m_m S x1.toNatClampNeg)) (pr_pre (hx_R hRT G)) (gw_call (k := 1) hts tw_570 tw_571 tw_4 tw_572 (by decide +kernel) rfl rfl ⟨Nat.le_of_ble_eq_true rfl, Nat.le_of_ble_eq_true rfl⟩) rfl hl.1 rfl (Nat.le_of_ble_eq_true rfl) ⟨Nat.zero_le _, Nat.zero_le _⟩ d_M_hit_II_190 ?_
        refine pu_l (As := [.long v9, .long (f_M_toDouble_J (m_m S x1.toNatClampNeg))]) (rest := []) ⟨hx, hb, hml, hown, hts⟩ (c_M_multiply_JJ l _ t0 t1 t2 v9 (f_M_toDouble_J (m_m S x1.toNatClampNeg))) (pr_pre (hx_R hRT G)) (gw_call (k := 2) hts tw_573 tw_574 tw_4 tw_575 (by decide +kernel) rfl rfl ⟨Nat.le_of_ble_eq_true rfl, Nat.le_of_ble_eq_true rfl⟩) rfl hl.1 rfl (Nat.le_of_ble_eq_true rfl) ⟨Nat.zero_le _, Nat.zero_le _⟩ d_M_hit_II_193 ?_
        refine lv_topl (fun v10 e10 => ?_)
        refine lv_lstore (lv' := [(15, .long v10), (13, .long v9), (11, .long v7), (9, .long v4), (7, .long v3), (5, .long v2), (3, .long v1), (0, .ref (ad 0)), (1, .int x1), (2, .int x2)]) hx hb d_M_hit_II_196 hl (by decide) rfl (fun ls hl => ?_)
        refine lv_lload hx hb d_M_hit_II_198 (lv_at hl 1 rfl) ?_
        refine lv_aload_n hx hb d_M_hit_II_200 rfl (lv_at hl 7 rfl) ?_
        refine va_get (D := (dC, dI)) (ci := 3) (v := .ref (ad 5)) (C := R_M) (T := F_M) (N := 21) hx hb hts (fun w h => gm (i_M w h)) hown hK G.1 0 rfl rfl 4 (by decide) (hts _ (gm tw_425)) (fun _ h9 => h9) rfl d_M_hit_II_201 ?_
        refine lv_iload_n hx hb d_M_hit_II_204 rfl (lv_at hl 9 rfl) ?_
        refine va_lald hx hb hK G.1 5 0 rfl rfl hk_x2 d_M_hit_II_205 ?_
        refine pu_l (As := [.long (m_m S x2.toNatClampNeg)]) (rest := [.long v9]) ⟨hx, hb, hml, hown, hts⟩ (c_M_toDouble_J l _ t0 t1 t2 (m_m S x2.toNatClampNeg)) (pr_pre (hx_R hRT G)) (gw_call (k := 1) hts tw_570 tw_571 tw_4 tw_572 (by decide +kernel) rfl rfl ⟨Nat.le_of_ble_eq_true rfl, Nat.le_of_ble_eq_true rfl⟩) rfl hl.1 rfl (Nat.le_of_ble_eq_true rfl) ⟨Nat.zero_le _, Nat.zero_le _⟩ d_M_hit_II_206 ?_
        refine pu_l (As := [.long v9, .long (f_M_toDouble_J (m_m S x2.toNatClampNeg))]) (rest := []) ⟨hx, hb, hml, hown, hts⟩ (c_M_multiply_JJ l _ t0 t1 t2 v9 (f_M_toDouble_J (m_m S x2.toNatClampNeg))) (pr_pre (hx_R hRT G)) (gw_call (k := 2) hts tw_573 tw_574 tw_4 tw_575 (by decide +kernel) rfl rfl ⟨Nat.le_of_ble_eq_true rfl, Nat.le_of_ble_eq_true rfl⟩) rfl hl.1 rfl (Nat.le_of_ble_eq_true rfl) ⟨Nat.zero_le _, Nat.zero_le _⟩ d_M_hit_II_209 ?_
        refine lv_topl (fun v11 e11 => ?_)
        refine lv_lstore (lv' := [(17, .long v11), (15, .long v10), (13, .long v9), (11, .long v7), (9, .long v4), (7, .long v3), (5, .long v2), (3, .long v1), (0, .ref (ad 0)), (1, .int x1), (2, .int x2)]) hx hb d_M_hit_II_212 hl (by decide) rfl (fun ls hl => ?_)
        refine lv_aload_n hx hb d_M_hit_II_214 rfl (lv_at hl 8 rfl) ?_
        refine va_get (D := (dC, dI)) (ci := 3) (v := .ref (ad 3)) (C := R_M) (T := F_M) (N := 21) hx hb hts (fun w h => gm (i_M w h)) hown hK G.1 0 rfl rfl 2 (by decide) (hts _ (gm tw_423)) (fun _ h9 => h9) rfl d_M_hit_II_215 ?_
        refine lv_iload_n hx hb d_M_hit_II_218 rfl (lv_at hl 9 rfl) ?_
        refine lv_aload_n hx hb d_M_hit_II_219 rfl (lv_at hl 8 rfl) ?_
        refine va_get (D := (dC, dI)) (ci := 3) (v := .ref (ad 3)) (C := R_M) (T := F_M) (N := 21) hx hb hts (fun w h => gm (i_M w h)) hown hK G.1 0 rfl rfl 2 (by decide) (hts _ (gm tw_423)) (fun _ h9 => h9) rfl d_M_hit_II_220 ?_
        refine lv_iload_n hx hb d_M_hit_II_223 rfl (lv_at hl 9 rfl) ?_
        refine va_lald hx hb hK G.1 3 0 rfl rfl hk_x1 d_M_hit_II_224 ?_
        refine lv_lload hx hb d_M_hit_II_225 (lv_at hl 0 rfl) ?_
        refine lv_lload_n hx hb d_M_hit_II_227 rfl (lv_at hl 7 rfl) ?_
        refine pu_l (As := [.long v11, .long v1]) (rest := [.long (m_u S x1.toNatClampNeg), .int x1, .ref (ad 3)]) ⟨hx, hb, hml, hown, hts⟩ (c_M_multiply_JJ l _ t0 t1 t2 v11 v1) (pr_pre (hx_R hRT G)) (gw_call (k := 2) hts tw_573 tw_574 tw_4 tw_575 (by decide +kernel) rfl rfl ⟨Nat.le_of_ble_eq_true rfl, Nat.le_of_ble_eq_true rfl⟩) rfl hl.1 rfl (Nat.le_of_ble_eq_true rfl) ⟨Nat.zero_le _, Nat.zero_le _⟩ d_M_hit_II_228 ?_
        refine pu_l (As := [.long (m_u S x1.toNatClampNeg), .long (f_M_multiply_JJ v11 v1)]) (rest := [.int x1, .ref (ad 3)]) ⟨hx, hb, hml, hown, hts⟩ (c_M_subtract_JJ l _ t0 t1 t2 (m_u S x1.toNatClampNeg) (f_M_multiply_JJ v11 v1)) (pr_pre (hx_R hRT G)) (gw_call (k := 2) hts tw_588 tw_589 tw_4 tw_590 (by decide +kernel) rfl rfl ⟨Nat.le_of_ble_eq_true rfl, Nat.le_of_ble_eq_true rfl⟩) rfl hl.1 rfl (Nat.le_of_ble_eq_true rfl) ⟨Nat.zero_le _, Nat.zero_le _⟩ d_M_hit_II_231 ?_
        obtain ⟨S12, e12⟩ : ∃ z : MS, z = u_m_u S (vp_updL (m_u S) x1.toNatClampNeg (f_M_subtract_JJ (m_u S x1.toNatClampNeg) (f_M_multiply_JJ v11 v1))) := ⟨_, rfl⟩
        refine hg_last hx hb hK G 3 0 rfl rfl hk_x1 d_M_hit_II_234 (mW ad cJ cI S12) (by rw [e12]; rfl) (fun H locs G => ?_)
        refine lv_aload_n hx hb d_M_hit_II_235 rfl (lv_at hl 8 rfl) ?_
        refine va_get (D := (dC, dI)) (ci := 3) (v := .ref (ad 4)) (C := R_M) (T := F_M) (N := 21) hx hb hts (fun w h => gm (i_M w h)) hown hK G.1 0 rfl rfl 3 (by decide) (hts _ (gm tw_424)) (fun _ h9 => h9) rfl d_M_hit_II_236 ?_
        refine lv_iload_n hx hb d_M_hit_II_239 rfl (lv_at hl 9 rfl) ?_
        refine lv_aload_n hx hb d_M_hit_II_240 rfl (lv_at hl 8 rfl) ?_
        refine va_get (D := (dC, dI)) (ci := 3) (v := .ref (ad 4)) (C := R_M) (T := F_M) (N := 21) hx hb hts (fun w h => gm (i_M w h)) hown hK G.1 0 rfl rfl 3 (by decide) (hts _ (gm tw_424)) (fun _ h9 => h9) rfl d_M_hit_II_241 ?_
        refine lv_iload_n hx hb d_M_hit_II_244 rfl (lv_at hl 9 rfl) ?_
        refine va_lald hx hb hK G.1 4 0 rfl rfl hk_x1 d_M_hit_II_245 ?_
        refine lv_lload hx hb d_M_hit_II_246 (lv_at hl 0 rfl) ?_
        refine lv_lload hx hb d_M_hit_II_248 (lv_at hl 6 rfl) ?_
        refine pu_l (As := [.long v11, .long v2]) (rest := [.long (m_v S12 x1.toNatClampNeg), .int x1, .ref (ad 4)]) ⟨hx, hb, hml, hown, hts⟩ (c_M_multiply_JJ l _ t0 t1 t2 v11 v2) (pr_pre (hx_R hRT G)) (gw_call (k := 2) hts tw_573 tw_574 tw_4 tw_575 (by decide +kernel) rfl rfl ⟨Nat.le_of_ble_eq_true rfl, Nat.le_of_ble_eq_true rfl⟩) rfl hl.1 rfl (Nat.le_of_ble_eq_true rfl) ⟨Nat.zero_le _, Nat.zero_le _⟩ d_M_hit_II_250 ?_
        refine pu_l (As := [.long (m_v S12 x1.toNatClampNeg), .long (f_M_multiply_JJ v11 v2)]) (rest := [.int x1, .ref (ad 4)]) ⟨hx, hb, hml, hown, hts⟩ (c_M_subtract_JJ l _ t0 t1 t2 (m_v S12 x1.toNatClampNeg) (f_M_multiply_JJ v11 v2)) (pr_pre (hx_R hRT G)) (gw_call (k := 2) hts tw_588 tw_589 tw_4 tw_590 (by decide +kernel) rfl rfl ⟨Nat.le_of_ble_eq_true rfl, Nat.le_of_ble_eq_true rfl⟩) rfl hl.1 rfl (Nat.le_of_ble_eq_true rfl) ⟨Nat.zero_le _, Nat.zero_le _⟩ d_M_hit_II_253 ?_
        obtain ⟨S13, e13⟩ : ∃ z : MS, z = u_m_v S12 (vp_updL (m_v S12) x1.toNatClampNeg (f_M_subtract_JJ (m_v S12 x1.toNatClampNeg) (f_M_multiply_JJ v11 v2))) := ⟨_, rfl⟩
        refine hg_last hx hb hK G 4 0 rfl rfl hk_x1 d_M_hit_II_256 (mW ad cJ cI S13) (by rw [e13]; rfl) (fun H locs G => ?_)
        refine lv_aload_n hx hb d_M_hit_II_257 rfl (lv_at hl 8 rfl) ?_
        refine va_get (D := (dC, dI)) (ci := 3) (v := .ref (ad 3)) (C := R_M) (T := F_M) (N := 21) hx hb hts (fun w h => gm (i_M w h)) hown hK G.1 0 rfl rfl 2 (by decide) (hts _ (gm tw_423)) (fun _ h9 => h9) rfl d_M_hit_II_258 ?_
        refine lv_iload_n hx hb d_M_hit_II_261 rfl (lv_at hl 10 rfl) ?_
        refine lv_aload_n hx hb d_M_hit_II_262 rfl (lv_at hl 8 rfl) ?_
        refine va_get (D := (dC, dI)) (ci := 3) (v := .ref (ad 3)) (C := R_M) (T := F_M) (N := 21) hx hb hts (fun w h => gm (i_M w h)) hown hK G.1 0 rfl rfl 2 (by decide) (hts _ (gm tw_423)) (fun _ h9 => h9) rfl d_M_hit_II_263 ?_
        refine lv_iload_n hx hb d_M_hit_II_266 rfl (lv_at hl 10 rfl) ?_
        refine va_lald hx hb hK G.1 3 0 rfl rfl hk_x2 d_M_hit_II_267 ?_
        refine lv_lload hx hb d_M_hit_II_268 (lv_at hl 1 rfl) ?_
        refine lv_lload_n hx hb d_M_hit_II_270 rfl (lv_at hl 7 rfl) ?_
        refine pu_l (As := [.long v10, .long v1]) (rest := [.long (m_u S13 x2.toNatClampNeg), .int x2, .ref (ad 3)]) ⟨hx, hb, hml, hown, hts⟩ (c_M_multiply_JJ l _ t0 t1 t2 v10 v1) (pr_pre (hx_R hRT G)) (gw_call (k := 2) hts tw_573 tw_574 tw_4 tw_575 (by decide +kernel) rfl rfl ⟨Nat.le_of_ble_eq_true rfl, Nat.le_of_ble_eq_true rfl⟩) rfl hl.1 rfl (Nat.le_of_ble_eq_true rfl) ⟨Nat.zero_le _, Nat.zero_le _⟩ d_M_hit_II_271 ?_
        refine pu_l (As := [.long (m_u S13 x2.toNatClampNeg), .long (f_M_multiply_JJ v10 v1)]) (rest := [.int x2, .ref (ad 3)]) ⟨hx, hb, hml, hown, hts⟩ (c_M_add_JJ l _ t0 t1 t2 (m_u S13 x2.toNatClampNeg) (f_M_multiply_JJ v10 v1)) (pr_pre (hx_R hRT G)) (gw_call (k := 2) hts tw_611 tw_612 tw_4 tw_613 (by decide +kernel) rfl rfl ⟨Nat.le_of_ble_eq_true rfl, Nat.le_of_ble_eq_true rfl⟩) rfl hl.1 rfl (Nat.le_of_ble_eq_true rfl) ⟨Nat.zero_le _, Nat.zero_le _⟩ d_M_hit_II_274 ?_
        obtain ⟨S14, e14⟩ : ∃ z : MS, z = u_m_u S13 (vp_updL (m_u S13) x2.toNatClampNeg (f_M_add_JJ (m_u S13 x2.toNatClampNeg) (f_M_multiply_JJ v10 v1))) := ⟨_, rfl⟩
        refine hg_last hx hb hK G 3 0 rfl rfl hk_x2 d_M_hit_II_277 (mW ad cJ cI S14) (by rw [e14]; rfl) (fun H locs G => ?_)
        refine lv_aload_n hx hb d_M_hit_II_278 rfl (lv_at hl 8 rfl) ?_
        refine va_get (D := (dC, dI)) (ci := 3) (v := .ref (ad 4)) (C := R_M) (T := F_M) (N := 21) hx hb hts (fun w h => gm (i_M w h)) hown hK G.1 0 rfl rfl 3 (by decide) (hts _ (gm tw_424)) (fun _ h9 => h9) rfl d_M_hit_II_279 ?_
        refine lv_iload_n hx hb d_M_hit_II_282 rfl (lv_at hl 10 rfl) ?_
        refine lv_aload_n hx hb d_M_hit_II_283 rfl (lv_at hl 8 rfl) ?_
        refine va_get (D := (dC, dI)) (ci := 3) (v := .ref (ad 4)) (C := R_M) (T := F_M) (N := 21) hx hb hts (fun w h => gm (i_M w h)) hown hK G.1 0 rfl rfl 3 (by decide) (hts _ (gm tw_424)) (fun _ h9 => h9) rfl d_M_hit_II_284 ?_
        refine lv_iload_n hx hb d_M_hit_II_287 rfl (lv_at hl 10 rfl) ?_
        refine va_lald hx hb hK G.1 4 0 rfl rfl hk_x2 d_M_hit_II_288 ?_
        refine lv_lload hx hb d_M_hit_II_289 (lv_at hl 1 rfl) ?_
        refine lv_lload hx hb d_M_hit_II_291 (lv_at hl 6 rfl) ?_
        refine pu_l (As := [.long v10, .long v2]) (rest := [.long (m_v S14 x2.toNatClampNeg), .int x2, .ref (ad 4)]) ⟨hx, hb, hml, hown, hts⟩ (c_M_multiply_JJ l _ t0 t1 t2 v10 v2) (pr_pre (hx_R hRT G)) (gw_call (k := 2) hts tw_573 tw_574 tw_4 tw_575 (by decide +kernel) rfl rfl ⟨Nat.le_of_ble_eq_true rfl, Nat.le_of_ble_eq_true rfl⟩) rfl hl.1 rfl (Nat.le_of_ble_eq_true rfl) ⟨Nat.zero_le _, Nat.zero_le _⟩ d_M_hit_II_293 ?_
        refine pu_l (As := [.long (m_v S14 x2.toNatClampNeg), .long (f_M_multiply_JJ v10 v2)]) (rest := [.int x2, .ref (ad 4)]) ⟨hx, hb, hml, hown, hts⟩ (c_M_add_JJ l _ t0 t1 t2 (m_v S14 x2.toNatClampNeg) (f_M_multiply_JJ v10 v2)) (pr_pre (hx_R hRT G)) (gw_call (k := 2) hts tw_611 tw_612 tw_4 tw_613 (by decide +kernel) rfl rfl ⟨Nat.le_of_ble_eq_true rfl, Nat.le_of_ble_eq_true rfl⟩) rfl hl.1 rfl (Nat.le_of_ble_eq_true rfl) ⟨Nat.zero_le _, Nat.zero_le _⟩ d_M_hit_II_296 ?_
        obtain ⟨S15, e15⟩ : ∃ z : MS, z = u_m_v S14 (vp_updL (m_v S14) x2.toNatClampNeg (f_M_add_JJ (m_v S14 x2.toNatClampNeg) (f_M_multiply_JJ v10 v2))) := ⟨_, rfl⟩
        refine hg_last hx hb hK G 4 0 rfl rfl hk_x2 d_M_hit_II_299 (mW ad cJ cI S15) (by rw [e15]; rfl) (fun H locs G => ?_)
        exact hg_vret hx hb hr hlocks hK hAe G (by have qe1 := e1.symm; have qe2 := e2.symm; have qe3 := e3.symm; have qe4 := e4.symm; have qe7 := e7.symm; have qe9 := e9.symm; have qe10 := e10.symm; have qe11 := e11.symm; have qe12 := e12.symm; have qe13 := e13.symm; have qe14 := e14.symm; have qe15 := e15.symm; subst qe1 qe2 qe3 qe4 qe7 qe9 qe10 qe11 qe12 qe13 qe14 qe15; unfold f_M_hit_II; dsimp only; rw [if_pos c5, if_pos c6, if_pos c8]) d_M_hit_II_300
      · exact hg_vret hx hb hr hlocks hK hAe G (by have qe1 := e1.symm; have qe2 := e2.symm; have qe3 := e3.symm; have qe4 := e4.symm; have qe7 := e7.symm; subst qe1 qe2 qe3 qe4 qe7; unfold f_M_hit_II; dsimp only; rw [if_pos c5, if_pos c6, if_neg c8]) d_M_hit_II_149
    · exact hg_vret hx hb hr hlocks hK hAe G (by have qe1 := e1.symm; have qe2 := e2.symm; have qe3 := e3.symm; have qe4 := e4.symm; subst qe1 qe2 qe3 qe4; unfold f_M_hit_II; dsimp only; rw [if_pos c5, if_neg c6]) d_M_hit_II_89
theorem kq_go0 (S : MS) (x : Int32) : m_left (f_M_go_AJAJAJI_0 S x) = m_left S ∧ m_right (f_M_go_AJAJAJI_0 S x) = m_right S ∧ m_springs (f_M_go_AJAJAJI_0 S x) = m_springs S := by unfold f_M_go_AJAJAJI_0; dsimp only; (repeat' split) <;> exact ⟨rfl, rfl, rfl⟩
theorem kq_go1 (S : MS) (x : Int32) : m_left (f_M_go_AJAJAJI_1 S x) = m_left S ∧ m_right (f_M_go_AJAJAJI_1 S x) = m_right S ∧ m_springs (f_M_go_AJAJAJI_1 S x) = m_springs S := by unfold f_M_go_AJAJAJI_1; dsimp only; (repeat' split) <;> exact ⟨rfl, rfl, rfl⟩
theorem kq_hit (S : MS) (x y : Int32) : m_left (f_M_hit_II S x y) = m_left S ∧ m_right (f_M_hit_II S x y) = m_right S ∧ m_springs (f_M_hit_II S x y) = m_springs S := by unfold f_M_hit_II; dsimp only; (repeat' split) <;> exact ⟨rfl, rfl, rfl⟩
