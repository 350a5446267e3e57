-- ===== MotionLabModel.divide(JJI)J
abbrev y_M_divide_JJI : MethodName := ⟨"MotionLabModel", "divide", "(JJI)J"⟩
abbrev b_M_divide_JJI : ByteArray := prog_6_method_19_code
theorem d_M_divide_JJI_0 : decode b_M_divide_JJI 0 = .ok (.lload_n 0, 1) := by decide +kernel
theorem d_M_divide_JJI_1 : decode b_M_divide_JJI 1 = .ok (.iload 4, 2) := by decide +kernel
theorem d_M_divide_JJI_3 : decode b_M_divide_JJI 3 = .ok (.invokestatic 76, 3) := by decide +kernel
theorem d_M_divide_JJI_6 : decode b_M_divide_JJI 6 = .ok (.lload_n 2, 1) := by decide +kernel
theorem d_M_divide_JJI_7 : decode b_M_divide_JJI 7 = .ok (.iload 4, 2) := by decide +kernel
theorem d_M_divide_JJI_9 : decode b_M_divide_JJI 9 = .ok (.invokestatic 76, 3) := by decide +kernel
theorem d_M_divide_JJI_12 : decode b_M_divide_JJI 12 = .ok (.if_icmp .eq 7, 3) := by decide +kernel
theorem d_M_divide_JJI_15 : decode b_M_divide_JJI 15 = .ok (.iconst 1, 1) := by decide +kernel
theorem d_M_divide_JJI_16 : decode b_M_divide_JJI 16 = .ok (.goto 4, 3) := by decide +kernel
theorem d_M_divide_JJI_19 : decode b_M_divide_JJI 19 = .ok (.iconst 0, 1) := by decide +kernel
theorem d_M_divide_JJI_20 : decode b_M_divide_JJI 20 = .ok (.istore 5, 2) := by decide +kernel
theorem d_M_divide_JJI_22 : decode b_M_divide_JJI 22 = .ok (.lload_n 0, 1) := by decide +kernel
theorem d_M_divide_JJI_23 : decode b_M_divide_JJI 23 = .ok (.iload 4, 2) := by decide +kernel
theorem d_M_divide_JJI_25 : decode b_M_divide_JJI 25 = .ok (.invokestatic 56, 3) := by decide +kernel
theorem d_M_divide_JJI_28 : decode b_M_divide_JJI 28 = .ok (.ifCond .ne 12, 3) := by decide +kernel
theorem d_M_divide_JJI_31 : decode b_M_divide_JJI 31 = .ok (.lload_n 2, 1) := by decide +kernel
theorem d_M_divide_JJI_32 : decode b_M_divide_JJI 32 = .ok (.iload 4, 2) := by decide +kernel
theorem d_M_divide_JJI_34 : decode b_M_divide_JJI 34 = .ok (.invokestatic 56, 3) := by decide +kernel
theorem d_M_divide_JJI_37 : decode b_M_divide_JJI 37 = .ok (.ifCond .eq 9, 3) := by decide +kernel
theorem d_M_divide_JJI_40 : decode b_M_divide_JJI 40 = .ok (.iload 4, 2) := by decide +kernel
theorem d_M_divide_JJI_42 : decode b_M_divide_JJI 42 = .ok (.invokestatic 60, 3) := by decide +kernel
theorem d_M_divide_JJI_45 : decode b_M_divide_JJI 45 = .ok (.lreturn, 1) := by decide +kernel
theorem d_M_divide_JJI_46 : decode b_M_divide_JJI 46 = .ok (.lload_n 0, 1) := by decide +kernel
theorem d_M_divide_JJI_47 : decode b_M_divide_JJI 47 = .ok (.iload 4, 2) := by decide +kernel
theorem d_M_divide_JJI_49 : decode b_M_divide_JJI 49 = .ok (.invokestatic 63, 3) := by decide +kernel
theorem d_M_divide_JJI_52 : decode b_M_divide_JJI 52 = .ok (.ifCond .eq 33, 3) := by decide +kernel
theorem d_M_divide_JJI_55 : decode b_M_divide_JJI 55 = .ok (.lload_n 2, 1) := by decide +kernel
theorem d_M_divide_JJI_56 : decode b_M_divide_JJI 56 = .ok (.iload 4, 2) := by decide +kernel
theorem d_M_divide_JJI_58 : decode b_M_divide_JJI 58 = .ok (.invokestatic 63, 3) := by decide +kernel
theorem d_M_divide_JJI_61 : decode b_M_divide_JJI 61 = .ok (.ifCond .eq 11, 3) := by decide +kernel
theorem d_M_divide_JJI_64 : decode b_M_divide_JJI 64 = .ok (.iload 4, 2) := by decide +kernel
theorem d_M_divide_JJI_66 : decode b_M_divide_JJI 66 = .ok (.invokestatic 60, 3) := by decide +kernel
theorem d_M_divide_JJI_69 : decode b_M_divide_JJI 69 = .ok (.goto 15, 3) := by decide +kernel
theorem d_M_divide_JJI_72 : decode b_M_divide_JJI 72 = .ok (.iload 4, 2) := by decide +kernel
theorem d_M_divide_JJI_74 : decode b_M_divide_JJI 74 = .ok (.invokestatic 19, 3) := by decide +kernel
theorem d_M_divide_JJI_77 : decode b_M_divide_JJI 77 = .ok (.iload 5, 2) := by decide +kernel
theorem d_M_divide_JJI_79 : decode b_M_divide_JJI 79 = .ok (.iload 4, 2) := by decide +kernel
theorem d_M_divide_JJI_81 : decode b_M_divide_JJI 81 = .ok (.invokestatic 36, 3) := by decide +kernel
theorem d_M_divide_JJI_84 : decode b_M_divide_JJI 84 = .ok (.lreturn, 1) := by decide +kernel
theorem d_M_divide_JJI_85 : decode b_M_divide_JJI 85 = .ok (.lload_n 2, 1) := by decide +kernel
theorem d_M_divide_JJI_86 : decode b_M_divide_JJI 86 = .ok (.iload 4, 2) := by decide +kernel
theorem d_M_divide_JJI_88 : decode b_M_divide_JJI 88 = .ok (.invokestatic 63, 3) := by decide +kernel
theorem d_M_divide_JJI_91 : decode b_M_divide_JJI 91 = .ok (.ifCond .eq 12, 3) := by decide +kernel
theorem d_M_divide_JJI_94 : decode b_M_divide_JJI 94 = .ok (.lconst 0, 1) := by decide +kernel
theorem d_M_divide_JJI_95 : decode b_M_divide_JJI 95 = .ok (.iload 5, 2) := by decide +kernel
theorem d_M_divide_JJI_97 : decode b_M_divide_JJI 97 = .ok (.iload 4, 2) := by decide +kernel
theorem d_M_divide_JJI_99 : decode b_M_divide_JJI 99 = .ok (.invokestatic 36, 3) := by decide +kernel
theorem d_M_divide_JJI_102 : decode b_M_divide_JJI 102 = .ok (.lreturn, 1) := by decide +kernel
theorem d_M_divide_JJI_103 : decode b_M_divide_JJI 103 = .ok (.lload_n 2, 1) := by decide +kernel
theorem d_M_divide_JJI_104 : decode b_M_divide_JJI 104 = .ok (.iload 4, 2) := by decide +kernel
theorem d_M_divide_JJI_106 : decode b_M_divide_JJI 106 = .ok (.invokestatic 66, 3) := by decide +kernel
theorem d_M_divide_JJI_109 : decode b_M_divide_JJI 109 = .ok (.ifCond .eq 33, 3) := by decide +kernel
theorem d_M_divide_JJI_112 : decode b_M_divide_JJI 112 = .ok (.lload_n 0, 1) := by decide +kernel
theorem d_M_divide_JJI_113 : decode b_M_divide_JJI 113 = .ok (.iload 4, 2) := by decide +kernel
theorem d_M_divide_JJI_115 : decode b_M_divide_JJI 115 = .ok (.invokestatic 66, 3) := by decide +kernel
theorem d_M_divide_JJI_118 : decode b_M_divide_JJI 118 = .ok (.ifCond .eq 11, 3) := by decide +kernel
theorem d_M_divide_JJI_121 : decode b_M_divide_JJI 121 = .ok (.iload 4, 2) := by decide +kernel
theorem d_M_divide_JJI_123 : decode b_M_divide_JJI 123 = .ok (.invokestatic 60, 3) := by decide +kernel
theorem d_M_divide_JJI_126 : decode b_M_divide_JJI 126 = .ok (.goto 15, 3) := by decide +kernel
theorem d_M_divide_JJI_129 : decode b_M_divide_JJI 129 = .ok (.iload 4, 2) := by decide +kernel
theorem d_M_divide_JJI_131 : decode b_M_divide_JJI 131 = .ok (.invokestatic 19, 3) := by decide +kernel
theorem d_M_divide_JJI_134 : decode b_M_divide_JJI 134 = .ok (.iload 5, 2) := by decide +kernel
theorem d_M_divide_JJI_136 : decode b_M_divide_JJI 136 = .ok (.iload 4, 2) := by decide +kernel
theorem d_M_divide_JJI_138 : decode b_M_divide_JJI 138 = .ok (.invokestatic 36, 3) := by decide +kernel
theorem d_M_divide_JJI_141 : decode b_M_divide_JJI 141 = .ok (.lreturn, 1) := by decide +kernel
theorem d_M_divide_JJI_142 : decode b_M_divide_JJI 142 = .ok (.lload_n 0, 1) := by decide +kernel
theorem d_M_divide_JJI_143 : decode b_M_divide_JJI 143 = .ok (.iload 4, 2) := by decide +kernel
theorem d_M_divide_JJI_145 : decode b_M_divide_JJI 145 = .ok (.invokestatic 66, 3) := by decide +kernel
theorem d_M_divide_JJI_148 : decode b_M_divide_JJI 148 = .ok (.ifCond .eq 12, 3) := by decide +kernel
theorem d_M_divide_JJI_151 : decode b_M_divide_JJI 151 = .ok (.lconst 0, 1) := by decide +kernel
theorem d_M_divide_JJI_152 : decode b_M_divide_JJI 152 = .ok (.iload 5, 2) := by decide +kernel
theorem d_M_divide_JJI_154 : decode b_M_divide_JJI 154 = .ok (.iload 4, 2) := by decide +kernel
theorem d_M_divide_JJI_156 : decode b_M_divide_JJI 156 = .ok (.invokestatic 36, 3) := by decide +kernel
theorem d_M_divide_JJI_159 : decode b_M_divide_JJI 159 = .ok (.lreturn, 1) := by decide +kernel
theorem d_M_divide_JJI_160 : decode b_M_divide_JJI 160 = .ok (.lload_n 0, 1) := by decide +kernel
theorem d_M_divide_JJI_161 : decode b_M_divide_JJI 161 = .ok (.iload 4, 2) := by decide +kernel
theorem d_M_divide_JJI_163 : decode b_M_divide_JJI 163 = .ok (.invokestatic 73, 3) := by decide +kernel
theorem d_M_divide_JJI_166 : decode b_M_divide_JJI 166 = .ok (.lstore 6, 2) := by decide +kernel
theorem d_M_divide_JJI_168 : decode b_M_divide_JJI 168 = .ok (.lload_n 2, 1) := by decide +kernel
theorem d_M_divide_JJI_169 : decode b_M_divide_JJI 169 = .ok (.iload 4, 2) := by decide +kernel
theorem d_M_divide_JJI_171 : decode b_M_divide_JJI 171 = .ok (.invokestatic 73, 3) := by decide +kernel
theorem d_M_divide_JJI_174 : decode b_M_divide_JJI 174 = .ok (.lstore 8, 2) := by decide +kernel
theorem d_M_divide_JJI_176 : decode b_M_divide_JJI 176 = .ok (.lload_n 0, 1) := by decide +kernel
theorem d_M_divide_JJI_177 : decode b_M_divide_JJI 177 = .ok (.iload 4, 2) := by decide +kernel
theorem d_M_divide_JJI_179 : decode b_M_divide_JJI 179 = .ok (.invokestatic 69, 3) := by decide +kernel
theorem d_M_divide_JJI_182 : decode b_M_divide_JJI 182 = .ok (.lload 6, 2) := by decide +kernel
theorem d_M_divide_JJI_184 : decode b_M_divide_JJI 184 = .ok (.iload 4, 2) := by decide +kernel
theorem d_M_divide_JJI_186 : decode b_M_divide_JJI 186 = .ok (.invokestatic 86, 3) := by decide +kernel
theorem d_M_divide_JJI_189 : decode b_M_divide_JJI 189 = .ok (.isub, 1) := by decide +kernel
theorem d_M_divide_JJI_190 : decode b_M_divide_JJI 190 = .ok (.lload_n 2, 1) := by decide +kernel
theorem d_M_divide_JJI_191 : decode b_M_divide_JJI 191 = .ok (.iload 4, 2) := by decide +kernel
theorem d_M_divide_JJI_193 : decode b_M_divide_JJI 193 = .ok (.invokestatic 69, 3) := by decide +kernel
theorem d_M_divide_JJI_196 : decode b_M_divide_JJI 196 = .ok (.isub, 1) := by decide +kernel
theorem d_M_divide_JJI_197 : decode b_M_divide_JJI 197 = .ok (.lload 8, 2) := by decide +kernel
theorem d_M_divide_JJI_199 : decode b_M_divide_JJI 199 = .ok (.iload 4, 2) := by decide +kernel
theorem d_M_divide_JJI_201 : decode b_M_divide_JJI 201 = .ok (.invokestatic 86, 3) := by decide +kernel
theorem d_M_divide_JJI_204 : decode b_M_divide_JJI 204 = .ok (.iadd, 1) := by decide +kernel
theorem d_M_divide_JJI_205 : decode b_M_divide_JJI 205 = .ok (.istore 10, 2) := by decide +kernel
theorem d_M_divide_JJI_207 : decode b_M_divide_JJI 207 = .ok (.lload 6, 2) := by decide +kernel
theorem d_M_divide_JJI_209 : decode b_M_divide_JJI 209 = .ok (.lload 6, 2) := by decide +kernel
theorem d_M_divide_JJI_211 : decode b_M_divide_JJI 211 = .ok (.iload 4, 2) := by decide +kernel
theorem d_M_divide_JJI_213 : decode b_M_divide_JJI 213 = .ok (.invokestatic 86, 3) := by decide +kernel
theorem d_M_divide_JJI_216 : decode b_M_divide_JJI 216 = .ok (.lshl, 1) := by decide +kernel
theorem d_M_divide_JJI_217 : decode b_M_divide_JJI 217 = .ok (.lstore 6, 2) := by decide +kernel
theorem d_M_divide_JJI_219 : decode b_M_divide_JJI 219 = .ok (.lload 8, 2) := by decide +kernel
theorem d_M_divide_JJI_221 : decode b_M_divide_JJI 221 = .ok (.lload 8, 2) := by decide +kernel
theorem d_M_divide_JJI_223 : decode b_M_divide_JJI 223 = .ok (.iload 4, 2) := by decide +kernel
theorem d_M_divide_JJI_225 : decode b_M_divide_JJI 225 = .ok (.invokestatic 86, 3) := by decide +kernel
theorem d_M_divide_JJI_228 : decode b_M_divide_JJI 228 = .ok (.lshl, 1) := by decide +kernel
theorem d_M_divide_JJI_229 : decode b_M_divide_JJI 229 = .ok (.lstore 8, 2) := by decide +kernel
theorem d_M_divide_JJI_231 : decode b_M_divide_JJI 231 = .ok (.lload 6, 2) := by decide +kernel
theorem d_M_divide_JJI_233 : decode b_M_divide_JJI 233 = .ok (.lload 8, 2) := by decide +kernel
theorem d_M_divide_JJI_235 : decode b_M_divide_JJI 235 = .ok (.lcmp, 1) := by decide +kernel
theorem d_M_divide_JJI_236 : decode b_M_divide_JJI 236 = .ok (.ifCond .lt 7, 3) := by decide +kernel
theorem d_M_divide_JJI_239 : decode b_M_divide_JJI 239 = .ok (.lconst 1, 1) := by decide +kernel
theorem d_M_divide_JJI_240 : decode b_M_divide_JJI 240 = .ok (.goto 4, 3) := by decide +kernel
theorem d_M_divide_JJI_243 : decode b_M_divide_JJI 243 = .ok (.lconst 0, 1) := by decide +kernel
theorem d_M_divide_JJI_244 : decode b_M_divide_JJI 244 = .ok (.lstore 11, 2) := by decide +kernel
theorem d_M_divide_JJI_246 : decode b_M_divide_JJI 246 = .ok (.lload 11, 2) := by decide +kernel
theorem d_M_divide_JJI_248 : decode b_M_divide_JJI 248 = .ok (.lconst 1, 1) := by decide +kernel
theorem d_M_divide_JJI_249 : decode b_M_divide_JJI 249 = .ok (.lcmp, 1) := by decide +kernel
theorem d_M_divide_JJI_250 : decode b_M_divide_JJI 250 = .ok (.ifCond .ne 11, 3) := by decide +kernel
theorem d_M_divide_JJI_253 : decode b_M_divide_JJI 253 = .ok (.lload 6, 2) := by decide +kernel
theorem d_M_divide_JJI_255 : decode b_M_divide_JJI 255 = .ok (.lload 8, 2) := by decide +kernel
theorem d_M_divide_JJI_257 : decode b_M_divide_JJI 257 = .ok (.lsub, 1) := by decide +kernel
theorem d_M_divide_JJI_258 : decode b_M_divide_JJI 258 = .ok (.goto 5, 3) := by decide +kernel
theorem d_M_divide_JJI_261 : decode b_M_divide_JJI 261 = .ok (.lload 6, 2) := by decide +kernel
theorem d_M_divide_JJI_263 : decode b_M_divide_JJI 263 = .ok (.lstore 13, 2) := by decide +kernel
theorem d_M_divide_JJI_265 : decode b_M_divide_JJI 265 = .ok (.iconst 0, 1) := by decide +kernel
theorem d_M_divide_JJI_266 : decode b_M_divide_JJI 266 = .ok (.istore 15, 2) := by decide +kernel
theorem d_M_divide_JJI_268 : decode b_M_divide_JJI 268 = .ok (.iload 15, 2) := by decide +kernel
theorem d_M_divide_JJI_270 : decode b_M_divide_JJI 270 = .ok (.bipush 60, 2) := by decide +kernel
theorem d_M_divide_JJI_272 : decode b_M_divide_JJI 272 = .ok (.if_icmp .ge 45, 3) := by decide +kernel
theorem d_M_divide_JJI_275 : decode b_M_divide_JJI 275 = .ok (.lload 13, 2) := by decide +kernel
theorem d_M_divide_JJI_277 : decode b_M_divide_JJI 277 = .ok (.iconst 1, 1) := by decide +kernel
theorem d_M_divide_JJI_278 : decode b_M_divide_JJI 278 = .ok (.lshl, 1) := by decide +kernel
theorem d_M_divide_JJI_279 : decode b_M_divide_JJI 279 = .ok (.lstore 13, 2) := by decide +kernel
theorem d_M_divide_JJI_281 : decode b_M_divide_JJI 281 = .ok (.lload 11, 2) := by decide +kernel
theorem d_M_divide_JJI_283 : decode b_M_divide_JJI 283 = .ok (.iconst 1, 1) := by decide +kernel
theorem d_M_divide_JJI_284 : decode b_M_divide_JJI 284 = .ok (.lshl, 1) := by decide +kernel
theorem d_M_divide_JJI_285 : decode b_M_divide_JJI 285 = .ok (.lstore 11, 2) := by decide +kernel
theorem d_M_divide_JJI_287 : decode b_M_divide_JJI 287 = .ok (.lload 13, 2) := by decide +kernel
theorem d_M_divide_JJI_289 : decode b_M_divide_JJI 289 = .ok (.lload 8, 2) := by decide +kernel
theorem d_M_divide_JJI_291 : decode b_M_divide_JJI 291 = .ok (.lcmp, 1) := by decide +kernel
theorem d_M_divide_JJI_292 : decode b_M_divide_JJI 292 = .ok (.ifCond .ge 6, 3) := by decide +kernel
theorem d_M_divide_JJI_295 : decode b_M_divide_JJI 295 = .ok (.goto 16, 3) := by decide +kernel
theorem d_M_divide_JJI_298 : decode b_M_divide_JJI 298 = .ok (.lload 13, 2) := by decide +kernel
theorem d_M_divide_JJI_300 : decode b_M_divide_JJI 300 = .ok (.lload 8, 2) := by decide +kernel
theorem d_M_divide_JJI_302 : decode b_M_divide_JJI 302 = .ok (.lsub, 1) := by decide +kernel
theorem d_M_divide_JJI_303 : decode b_M_divide_JJI 303 = .ok (.lstore 13, 2) := by decide +kernel
theorem d_M_divide_JJI_305 : decode b_M_divide_JJI 305 = .ok (.lload 11, 2) := by decide +kernel
theorem d_M_divide_JJI_307 : decode b_M_divide_JJI 307 = .ok (.lconst 1, 1) := by decide +kernel
theorem d_M_divide_JJI_308 : decode b_M_divide_JJI 308 = .ok (.lor, 1) := by decide +kernel
theorem d_M_divide_JJI_309 : decode b_M_divide_JJI 309 = .ok (.lstore 11, 2) := by decide +kernel
theorem d_M_divide_JJI_311 : decode b_M_divide_JJI 311 = .ok (.iinc 15 1, 3) := by decide +kernel
theorem d_M_divide_JJI_314 : decode b_M_divide_JJI 314 = .ok (.goto (-46), 3) := by decide +kernel
theorem d_M_divide_JJI_317 : decode b_M_divide_JJI 317 = .ok (.iload 5, 2) := by decide +kernel
theorem d_M_divide_JJI_319 : decode b_M_divide_JJI 319 = .ok (.lload 11, 2) := by decide +kernel
theorem d_M_divide_JJI_321 : decode b_M_divide_JJI 321 = .ok (.iload 10, 2) := by decide +kernel
theorem d_M_divide_JJI_323 : decode b_M_divide_JJI 323 = .ok (.bipush 60, 2) := by decide +kernel
theorem d_M_divide_JJI_325 : decode b_M_divide_JJI 325 = .ok (.isub, 1) := by decide +kernel
theorem d_M_divide_JJI_326 : decode b_M_divide_JJI 326 = .ok (.lload 13, 2) := by decide +kernel
theorem d_M_divide_JJI_328 : decode b_M_divide_JJI 328 = .ok (.lconst 0, 1) := by decide +kernel
theorem d_M_divide_JJI_329 : decode b_M_divide_JJI 329 = .ok (.lcmp, 1) := by decide +kernel
theorem d_M_divide_JJI_330 : decode b_M_divide_JJI 330 = .ok (.ifCond .eq 7, 3) := by decide +kernel
theorem d_M_divide_JJI_333 : decode b_M_divide_JJI 333 = .ok (.iconst 1, 1) := by decide +kernel
theorem d_M_divide_JJI_334 : decode b_M_divide_JJI 334 = .ok (.goto 4, 3) := by decide +kernel
theorem d_M_divide_JJI_337 : decode b_M_divide_JJI 337 = .ok (.iconst 0, 1) := by decide +kernel
theorem d_M_divide_JJI_338 : decode b_M_divide_JJI 338 = .ok (.iload 4, 2) := by decide +kernel
theorem d_M_divide_JJI_340 : decode b_M_divide_JJI 340 = .ok (.invokestatic 52, 3) := by decide +kernel
theorem d_M_divide_JJI_343 : decode b_M_divide_JJI 343 = .ok (.lreturn, 1) := by decide +kernel
def f_M_divide_JJI_268 : Nat → Int32 → Int32 → Int64 → Int32 → Int64 → Int64 → Int32 → Int64
  | 0, _, _, _, _, _, _, _ => 0
  | n + 1, x4, x5, x8, x10, x11, x13, x15 =>
    if (60 : Int32) ≤ x15 then
      if (lg_cmp x13 (0 : Int64)) = 0 then
        f_M_rounded_ZJIZI x5 x11 (x10 - (60 : Int32)) (0 : Int32) x4
      else
        f_M_rounded_ZJIZI x5 x11 (x10 - (60 : Int32)) (1 : Int32) x4
    else
      let v3 : Int64 := j_shl x13 (1 : Int32)
      let v4 : Int64 := j_shl x11 (1 : Int32)
      if 0 ≤ (lg_cmp v3 x8) then
        let v6 : Int64 := v3 - x8
        let v7 : Int64 := v4 ||| (1 : Int64)
        let v8 : Int32 := x15 + 1
        f_M_divide_JJI_268 n x4 x5 x8 x10 v7 v6 v8
      else
        let v9 : Int32 := x15 + 1
        f_M_divide_JJI_268 n x4 x5 x8 x10 v4 v3 v9
set_option maxHeartbeats 4000000 in
set_option maxRecDepth 100000 in
theorem k_M_divide_JJI_268 {p : Program} {l : Launch} {e : Env} {s : State} {m : MethodId} {args : Array Value} {below : List Frame} {meth : Method} {c : Code} (C0 : pu_C p s m args meth c b_M_divide_JJI 16 "MotionLabModel" (some .long) (gw y_M_divide_JJI b_M_divide_JJI 16 (some .long))) {t0 t1 t2 : Nat} (hRT : RTH t0 t1 t2 s s.heap) (n : Nat) : ∀ (x4 : Int32) (x5 : Int32) (x8 : Int64) (x10 : Int32) (x11 : Int64) (x13 : Int64) (x15 : Int32) (hk_x4 : vp_in x4 2) (hinv : ∃ j : Nat, x15 = nI j ∧ j ≤ (60 : Int32).toNatClampNeg ∧ (60 : Int32).toNatClampNeg - j < n) (ls : Array Slot) (hl : lv_has ls 16 [(4, .int x4), (5, .int x5), (8, .long x8), (10, .int x10), (11, .long x11), (13, .long x13), (15, .int x15)]) {w : Int64} (hw : w = f_M_divide_JJI_268 n x4 x5 x8 x10 x11 x13 x15), W p l e (headSpec (gw y_M_divide_JJI b_M_divide_JJI 16 (some .long)) ({ frames := 3, cells := 0, slots := 0, locals := 77 } : Room)).room s m args below meth c s.heap [] 0 0 (pu_Ql w below args s) (F0 m 268 ls []) := by
  obtain ⟨hx, hb, hml, hown, hts, hr, hlocks⟩ := id C0
  obtain ⟨hT0, hT1, hT2⟩ := id hRT
  induction n with
  | zero => intro x4 x5 x8 x10 x11 x13 x15 hk_x4 hinv ls hl w hw; exact (fl_zero hinv).elim
  | succ n ih =>
    intro x4 x5 x8 x10 x11 x13 x15 hk_x4 hinv ls hl w hw
    refine lv_iload hx hb d_M_divide_JJI_268 (lv_at hl 6 rfl) ?_
    refine lv_bipush (v := (60 : Int32)) hx hb d_M_divide_JJI_270 (by decide) ?_
    refine lv_icmp_ge (tgt := 317) hx hb d_M_divide_JJI_272 (by decide) (fun c1 => ?_) (fun c1 => ?_)
    · refine lv_iload hx hb d_M_divide_JJI_317 (lv_at hl 1 rfl) ?_
      refine lv_lload hx hb d_M_divide_JJI_319 (lv_at hl 4 rfl) ?_
      refine lv_iload hx hb d_M_divide_JJI_321 (lv_at hl 3 rfl) ?_
      refine lv_bipush (v := (60 : Int32)) hx hb d_M_divide_JJI_323 (by decide) ?_
      refine lv_isub hx hb d_M_divide_JJI_325 ?_
      refine lv_lload hx hb d_M_divide_JJI_326 (lv_at hl 5 rfl) ?_
      refine lv_lconst (v := (0 : Int64)) hx hb d_M_divide_JJI_328 (by decide) ?_
      refine W.lcmp hx hb d_M_divide_JJI_329 ?_
      refine lv_if_eq (tgt := 337) hx hb d_M_divide_JJI_330 (by decide) (fun c2 => ?_) (fun c2 => ?_)
      · refine lv_iconst (v := 0) hx hb d_M_divide_JJI_337 (by decide) ?_
        refine lv_iload hx hb d_M_divide_JJI_338 (lv_at hl 0 rfl) ?_
        refine pu_l (As := [.int x5, .long x11, .int (x10 - (60 : Int32)), .int (0 : Int32), .int x4]) (rest := []) ⟨hx, hb, hml, hown, hts⟩ (c_M_rounded_ZJIZI l _ t0 t1 t2 x5 x11 (x10 - (60 : Int32)) (0 : Int32) x4 hk_x4) (pr_pre hRT) (gw_call (k := 5) hts tw_539 tw_540 tw_4 tw_541 (by decide +kernel) rfl rfl ⟨Nat.le_of_ble_eq_true rfl, Nat.le_of_ble_eq_true rfl⟩) rfl hl.1 rfl (Nat.le_of_ble_eq_true rfl) ⟨Nat.zero_le _, Nat.zero_le _⟩ d_M_divide_JJI_340 ?_
        exact pu_lret hx hb hr hlocks d_M_divide_JJI_343 (by exact Eq.symm (hw.trans (Eq.trans (if_pos c1) (if_pos c2))))
      · refine lv_iconst (v := 1) hx hb d_M_divide_JJI_333 (by decide) ?_
        refine lv_goto (tgt := 338) hx hb d_M_divide_JJI_334 (by decide) ?_
        refine lv_iload hx hb d_M_divide_JJI_338 (lv_at hl 0 rfl) ?_
        refine pu_l (As := [.int x5, .long x11, .int (x10 - (60 : Int32)), .int (1 : Int32), .int x4]) (rest := []) ⟨hx, hb, hml, hown, hts⟩ (c_M_rounded_ZJIZI l _ t0 t1 t2 x5 x11 (x10 - (60 : Int32)) (1 : Int32) x4 hk_x4) (pr_pre hRT) (gw_call (k := 5) hts tw_539 tw_540 tw_4 tw_541 (by decide +kernel) rfl rfl ⟨Nat.le_of_ble_eq_true rfl, Nat.le_of_ble_eq_true rfl⟩) rfl hl.1 rfl (Nat.le_of_ble_eq_true rfl) ⟨Nat.zero_le _, Nat.zero_le _⟩ d_M_divide_JJI_340 ?_
        exact pu_lret hx hb hr hlocks d_M_divide_JJI_343 (by exact Eq.symm (hw.trans (Eq.trans (if_pos c1) (if_neg c2))))
    · refine lv_lload hx hb d_M_divide_JJI_275 (lv_at hl 5 rfl) ?_
      refine lv_iconst (v := 1) hx hb d_M_divide_JJI_277 (by decide) ?_
      refine lv_lshl (v := j_shl x13 (1 : Int32)) hx hb d_M_divide_JJI_278 rfl ?_
      refine lv_topl (fun v3 e3 => ?_)
      refine lv_lstore (lv' := [(13, .long v3), (4, .int x4), (5, .int x5), (8, .long x8), (10, .int x10), (11, .long x11), (15, .int x15)]) hx hb d_M_divide_JJI_279 hl (by decide) rfl (fun ls hl => ?_)
      refine lv_lload hx hb d_M_divide_JJI_281 (lv_at hl 5 rfl) ?_
      refine lv_iconst (v := 1) hx hb d_M_divide_JJI_283 (by decide) ?_
      refine lv_lshl (v := j_shl x11 (1 : Int32)) hx hb d_M_divide_JJI_284 rfl ?_
      refine lv_topl (fun v4 e4 => ?_)
      refine lv_lstore (lv' := [(11, .long v4), (13, .long v3), (4, .int x4), (5, .int x5), (8, .long x8), (10, .int x10), (15, .int x15)]) hx hb d_M_divide_JJI_285 hl (by decide) rfl (fun ls hl => ?_)
      refine lv_lload hx hb d_M_divide_JJI_287 (lv_at hl 1 rfl) ?_
      refine lv_lload hx hb d_M_divide_JJI_289 (lv_at hl 4 rfl) ?_
      refine W.lcmp hx hb d_M_divide_JJI_291 ?_
      refine lv_if_ge (tgt := 298) hx hb d_M_divide_JJI_292 (by decide) (fun c5 => ?_) (fun c5 => ?_)
      · refine lv_lload hx hb d_M_divide_JJI_298 (lv_at hl 1 rfl) ?_
        refine lv_lload hx hb d_M_divide_JJI_300 (lv_at hl 4 rfl) ?_
        refine lv_lsub hx hb d_M_divide_JJI_302 ?_
        refine lv_topl (fun v6 e6 => ?_)
        refine lv_lstore (lv' := [(13, .long v6), (11, .long v4), (4, .int x4), (5, .int x5), (8, .long x8), (10, .int x10), (15, .int x15)]) hx hb d_M_divide_JJI_303 hl (by decide) rfl (fun ls hl => ?_)
        refine lv_lload hx hb d_M_divide_JJI_305 (lv_at hl 1 rfl) ?_
        refine lv_lconst (v := (1 : Int64)) hx hb d_M_divide_JJI_307 (by decide) ?_
        refine lv_lor hx hb d_M_divide_JJI_308 ?_
        refine lv_topl (fun v7 e7 => ?_)
        refine lv_lstore (lv' := [(11, .long v7), (13, .long v6), (4, .int x4), (5, .int x5), (8, .long x8), (10, .int x10), (15, .int x15)]) hx hb d_M_divide_JJI_309 hl (by decide) rfl (fun ls hl => ?_)
        obtain ⟨v8, e8⟩ : ∃ y : Int32, y = x15 + 1 := ⟨_, rfl⟩
        refine lv_iinc (v := v8) (lv' := [(15, .int v8), (11, .long v7), (13, .long v6), (4, .int x4), (5, .int x5), (8, .long x8), (10, .int x10)]) hx hb d_M_divide_JJI_311 hl (k := 6) rfl (by rw [e8]; rfl) (by decide) rfl (fun ls hl => ?_)
        refine lv_goto (tgt := 268) hx hb d_M_divide_JJI_314 (by decide) ?_
        exact ih x4 x5 x8 x10 v7 v6 v8 hk_x4 (by rw [e8]; exact fl_up hinv c1) ls (lv_sub hl [3, 4, 5, 6, 1, 2, 0] rfl) (by have qe3 := e3.symm; have qe4 := e4.symm; have qe6 := e6.symm; have qe7 := e7.symm; have qe8 := e8.symm; subst qe3 qe4 qe6 qe7 qe8; exact (hw.trans (Eq.trans (if_neg c1) (if_pos c5))))
      · refine lv_goto (tgt := 311) hx hb d_M_divide_JJI_295 (by decide) ?_
        obtain ⟨v9, e9⟩ : ∃ y : Int32, y = x15 + 1 := ⟨_, rfl⟩
        refine lv_iinc (v := v9) (lv' := [(15, .int v9), (11, .long v4), (13, .long v3), (4, .int x4), (5, .int x5), (8, .long x8), (10, .int x10)]) hx hb d_M_divide_JJI_311 hl (k := 6) rfl (by rw [e9]; rfl) (by decide) rfl (fun ls hl => ?_)
        refine lv_goto (tgt := 268) hx hb d_M_divide_JJI_314 (by decide) ?_
        exact ih x4 x5 x8 x10 v4 v3 v9 hk_x4 (by rw [e9]; exact fl_up hinv c1) ls (lv_sub hl [3, 4, 5, 6, 1, 2, 0] rfl) (by have qe3 := e3.symm; have qe4 := e4.symm; have qe9 := e9.symm; subst qe3 qe4 qe9; exact (hw.trans (Eq.trans (if_neg c1) (if_neg c5))))
def f_M_divide_JJI_263 (x4 : Int32) (x5 : Int32) (x8 : Int64) (x10 : Int32) (x11 : Int64) (s0 : Int64) : Int64 :=
  f_M_divide_JJI_268 ((60 : Int32).toNatClampNeg + 1) x4 x5 x8 x10 x11 s0 (0 : Int32)
set_option maxHeartbeats 4000000 in
set_option maxRecDepth 100000 in
theorem k_M_divide_JJI_263 {p : Program} {l : Launch} {e : Env} {s : State} {m : MethodId} {args : Array Value} {below : List Frame} {meth : Method} {c : Code} (C0 : pu_C p s m args meth c b_M_divide_JJI 16 "MotionLabModel" (some .long) (gw y_M_divide_JJI b_M_divide_JJI 16 (some .long))) {t0 t1 t2 : Nat} (hRT : RTH t0 t1 t2 s s.heap) (x4 : Int32) (x5 : Int32) (x8 : Int64) (x10 : Int32) (x11 : Int64) (s0 : Int64) (hk_x4 : vp_in x4 2) (ls : Array Slot) (hl : lv_has ls 16 [(4, .int x4), (5, .int x5), (8, .long x8), (10, .int x10), (11, .long x11)]) {w : Int64} (hw : w = f_M_divide_JJI_263 x4 x5 x8 x10 x11 s0) : W p l e (headSpec (gw y_M_divide_JJI b_M_divide_JJI 16 (some .long)) ({ frames := 3, cells := 0, slots := 0, locals := 77 } : Room)).room s m args below meth c s.heap [] 0 0 (pu_Ql w below args s) (F0 m 263 ls [.long s0]) := by
  obtain ⟨hx, hb, hml, hown, hts, hr, hlocks⟩ := id C0
  obtain ⟨hT0, hT1, hT2⟩ := id hRT
  refine lv_lstore (lv' := [(13, .long s0), (4, .int x4), (5, .int x5), (8, .long x8), (10, .int x10), (11, .long x11)]) hx hb d_M_divide_JJI_263 hl (by decide) rfl (fun ls hl => ?_)
  refine lv_iconst (v := 0) hx hb d_M_divide_JJI_265 (by decide) ?_
  refine lv_istore (lv' := [(15, .int (0 : Int32)), (13, .long s0), (4, .int x4), (5, .int x5), (8, .long x8), (10, .int x10), (11, .long x11)]) hx hb d_M_divide_JJI_266 hl (by decide) rfl (fun ls hl => ?_)
  exact k_M_divide_JJI_268 C0 hRT ((60 : Int32).toNatClampNeg + 1) x4 x5 x8 x10 x11 s0 (0 : Int32) hk_x4 fl_first ls (lv_sub hl [2, 3, 4, 5, 6, 1, 0] rfl) (by exact (hw.trans rfl))
def f_M_divide_JJI_244 (x4 : Int32) (x5 : Int32) (x6 : Int64) (x8 : Int64) (x10 : Int32) (s0 : Int64) : Int64 :=
  if (lg_cmp s0 (1 : Int64)) = 0 then
    f_M_divide_JJI_263 x4 x5 x8 x10 s0 (x6 - x8)
  else
    f_M_divide_JJI_263 x4 x5 x8 x10 s0 x6
set_option maxHeartbeats 4000000 in
set_option maxRecDepth 100000 in
theorem k_M_divide_JJI_244 {p : Program} {l : Launch} {e : Env} {s : State} {m : MethodId} {args : Array Value} {below : List Frame} {meth : Method} {c : Code} (C0 : pu_C p s m args meth c b_M_divide_JJI 16 "MotionLabModel" (some .long) (gw y_M_divide_JJI b_M_divide_JJI 16 (some .long))) {t0 t1 t2 : Nat} (hRT : RTH t0 t1 t2 s s.heap) (x4 : Int32) (x5 : Int32) (x6 : Int64) (x8 : Int64) (x10 : Int32) (s0 : Int64) (hk_x4 : vp_in x4 2) (ls : Array Slot) (hl : lv_has ls 16 [(4, .int x4), (5, .int x5), (6, .long x6), (8, .long x8), (10, .int x10)]) {w : Int64} (hw : w = f_M_divide_JJI_244 x4 x5 x6 x8 x10 s0) : W p l e (headSpec (gw y_M_divide_JJI b_M_divide_JJI 16 (some .long)) ({ frames := 3, cells := 0, slots := 0, locals := 77 } : Room)).room s m args below meth c s.heap [] 0 0 (pu_Ql w below args s) (F0 m 244 ls [.long s0]) := by
  obtain ⟨hx, hb, hml, hown, hts, hr, hlocks⟩ := id C0
  obtain ⟨hT0, hT1, hT2⟩ := id hRT
  refine lv_lstore (lv' := [(11, .long s0), (4, .int x4), (5, .int x5), (6, .long x6), (8, .long x8), (10, .int x10)]) hx hb d_M_divide_JJI_244 hl (by decide) rfl (fun ls hl => ?_)
  refine lv_lload hx hb d_M_divide_JJI_246 (lv_at hl 0 rfl) ?_
  refine lv_lconst (v := (1 : Int64)) hx hb d_M_divide_JJI_248 (by decide) ?_
  refine W.lcmp hx hb d_M_divide_JJI_249 ?_
  refine lv_if_ne (tgt := 261) hx hb d_M_divide_JJI_250 (by decide) (fun c1 => ?_) (fun c1 => ?_)
  · refine lv_lload hx hb d_M_divide_JJI_261 (lv_at hl 3 rfl) ?_
    exact k_M_divide_JJI_263 C0 hRT x4 x5 x8 x10 s0 x6 hk_x4 ls (lv_sub hl [1, 2, 4, 5, 0] rfl) (by exact (hw.trans (if_neg c1)))
  · refine lv_lload hx hb d_M_divide_JJI_253 (lv_at hl 3 rfl) ?_
    refine lv_lload hx hb d_M_divide_JJI_255 (lv_at hl 4 rfl) ?_
    refine lv_lsub hx hb d_M_divide_JJI_257 ?_
    refine lv_goto (tgt := 263) hx hb d_M_divide_JJI_258 (by decide) ?_
    exact k_M_divide_JJI_263 C0 hRT x4 x5 x8 x10 s0 (x6 - x8) hk_x4 ls (lv_sub hl [1, 2, 4, 5, 0] rfl) (by exact (hw.trans (if_pos c1)))
def f_M_divide_JJI_20 (x0 : Int64) (x2 : Int64) (x4 : Int32) (s0 : Int32) : Int64 :=
  if (f_M_isNone_JI x0 x4) = 0 then
    if (f_M_isNone_JI x2 x4) = 0 then
      if (f_M_isInfinite_JI x0 x4) = 0 then
        if (f_M_isInfinite_JI x2 x4) = 0 then
          if (f_M_isZero_JI x2 x4) = 0 then
            if (f_M_isZero_JI x0 x4) = 0 then
              let v7 : Int64 := f_M_whole_JI x0 x4
              let v8 : Int64 := f_M_whole_JI x2 x4
              let v9 : Int32 := (((f_M_power_JI x0 x4) - (f_M_moved_JI v7 x4)) - (f_M_power_JI x2 x4)) + (f_M_moved_JI v8 x4)
              let v10 : Int64 := j_shl v7 (f_M_moved_JI v7 x4)
              let v11 : Int64 := j_shl v8 (f_M_moved_JI v8 x4)
              if (lg_cmp v10 v11) < 0 then
                f_M_divide_JJI_244 x4 s0 v10 v11 v9 (0 : Int64)
              else
                f_M_divide_JJI_244 x4 s0 v10 v11 v9 (1 : Int64)
            else
              f_M_signed_JZI (0 : Int64) s0 x4
          else
            if (f_M_isZero_JI x0 x4) = 0 then
              f_M_signed_JZI (f_M_infinite_I x4) s0 x4
            else
              f_M_none_I x4
        else
          f_M_signed_JZI (0 : Int64) s0 x4
      else
        if (f_M_isInfinite_JI x2 x4) = 0 then
          f_M_signed_JZI (f_M_infinite_I x4) s0 x4
        else
          f_M_none_I x4
    else
      f_M_none_I x4
  else
    f_M_none_I x4
set_option maxHeartbeats 4000000 in
set_option maxRecDepth 100000 in
theorem k_M_divide_JJI_20 {p : Program} {l : Launch} {e : Env} {s : State} {m : MethodId} {args : Array Value} {below : List Frame} {meth : Method} {c : Code} (C0 : pu_C p s m args meth c b_M_divide_JJI 16 "MotionLabModel" (some .long) (gw y_M_divide_JJI b_M_divide_JJI 16 (some .long))) {t0 t1 t2 : Nat} (hRT : RTH t0 t1 t2 s s.heap) (x0 : Int64) (x2 : Int64) (x4 : Int32) (s0 : Int32) (hk_x4 : vp_in x4 2) (ls : Array Slot) (hl : lv_has ls 16 [(0, .long x0), (2, .long x2), (4, .int x4)]) {w : Int64} (hw : w = f_M_divide_JJI_20 x0 x2 x4 s0) : W p l e (headSpec (gw y_M_divide_JJI b_M_divide_JJI 16 (some .long)) ({ frames := 3, cells := 0, slots := 0, locals := 77 } : Room)).room s m args below meth c s.heap [] 0 0 (pu_Ql w below args s) (F0 m 20 ls [.int s0]) := by
  obtain ⟨hx, hb, hml, hown, hts, hr, hlocks⟩ := id C0
  obtain ⟨hT0, hT1, hT2⟩ := id hRT
  refine lv_istore (lv' := [(5, .int s0), (0, .long x0), (2, .long x2), (4, .int x4)]) hx hb d_M_divide_JJI_20 hl (by decide) rfl (fun ls hl => ?_)
  refine lv_lload_n hx hb d_M_divide_JJI_22 rfl (lv_at hl 1 rfl) ?_
  refine lv_iload hx hb d_M_divide_JJI_23 (lv_at hl 3 rfl) ?_
  refine pu_i (As := [.long x0, .int x4]) (rest := []) ⟨hx, hb, hml, hown, hts⟩ (c_M_isNone_JI l _ x0 x4) pu_pre (gw_call (k := 2) hts tw_498 tw_499 tw_4 tw_500 (by decide +kernel) rfl rfl ⟨Nat.le_of_ble_eq_true rfl, Nat.le_of_ble_eq_true rfl⟩) rfl hl.1 rfl (Nat.le_of_ble_eq_true rfl) ⟨Nat.zero_le _, Nat.zero_le _⟩ d_M_divide_JJI_25 ?_
  refine lv_if_ne (tgt := 40) hx hb d_M_divide_JJI_28 (by decide) (fun c1 => ?_) (fun c1 => ?_)
  · refine lv_iload hx hb d_M_divide_JJI_40 (lv_at hl 3 rfl) ?_
    refine pu_l (As := [.int x4]) (rest := []) ⟨hx, hb, hml, hown, hts⟩ (c_M_none_I l _ x4) pu_pre (gw_call (k := 1) hts tw_511 tw_512 tw_4 tw_513 (by decide +kernel) rfl rfl ⟨Nat.le_of_ble_eq_true rfl, Nat.le_of_ble_eq_true rfl⟩) rfl hl.1 rfl (Nat.le_of_ble_eq_true rfl) ⟨Nat.zero_le _, Nat.zero_le _⟩ d_M_divide_JJI_42 ?_
    exact pu_lret hx hb hr hlocks d_M_divide_JJI_45 (by exact Eq.symm (hw.trans (if_neg c1)))
  · refine lv_lload_n hx hb d_M_divide_JJI_31 rfl (lv_at hl 2 rfl) ?_
    refine lv_iload hx hb d_M_divide_JJI_32 (lv_at hl 3 rfl) ?_
    refine pu_i (As := [.long x2, .int x4]) (rest := []) ⟨hx, hb, hml, hown, hts⟩ (c_M_isNone_JI l _ x2 x4) pu_pre (gw_call (k := 2) hts tw_498 tw_499 tw_4 tw_500 (by decide +kernel) rfl rfl ⟨Nat.le_of_ble_eq_true rfl, Nat.le_of_ble_eq_true rfl⟩) rfl hl.1 rfl (Nat.le_of_ble_eq_true rfl) ⟨Nat.zero_le _, Nat.zero_le _⟩ d_M_divide_JJI_34 ?_
    refine lv_if_eq (tgt := 46) hx hb d_M_divide_JJI_37 (by decide) (fun c2 => ?_) (fun c2 => ?_)
    · refine lv_lload_n hx hb d_M_divide_JJI_46 rfl (lv_at hl 1 rfl) ?_
      refine lv_iload hx hb d_M_divide_JJI_47 (lv_at hl 3 rfl) ?_
      refine pu_i (As := [.long x0, .int x4]) (rest := []) ⟨hx, hb, hml, hown, hts⟩ (c_M_isInfinite_JI l _ x0 x4) pu_pre (gw_call (k := 2) hts tw_516 tw_517 tw_4 tw_518 (by decide +kernel) rfl rfl ⟨Nat.le_of_ble_eq_true rfl, Nat.le_of_ble_eq_true rfl⟩) rfl hl.1 rfl (Nat.le_of_ble_eq_true rfl) ⟨Nat.zero_le _, Nat.zero_le _⟩ d_M_divide_JJI_49 ?_
      refine lv_if_eq (tgt := 85) hx hb d_M_divide_JJI_52 (by decide) (fun c3 => ?_) (fun c3 => ?_)
      · refine lv_lload_n hx hb d_M_divide_JJI_85 rfl (lv_at hl 2 rfl) ?_
        refine lv_iload hx hb d_M_divide_JJI_86 (lv_at hl 3 rfl) ?_
        refine pu_i (As := [.long x2, .int x4]) (rest := []) ⟨hx, hb, hml, hown, hts⟩ (c_M_isInfinite_JI l _ x2 x4) pu_pre (gw_call (k := 2) hts tw_516 tw_517 tw_4 tw_518 (by decide +kernel) rfl rfl ⟨Nat.le_of_ble_eq_true rfl, Nat.le_of_ble_eq_true rfl⟩) rfl hl.1 rfl (Nat.le_of_ble_eq_true rfl) ⟨Nat.zero_le _, Nat.zero_le _⟩ d_M_divide_JJI_88 ?_
        refine lv_if_eq (tgt := 103) hx hb d_M_divide_JJI_91 (by decide) (fun c4 => ?_) (fun c4 => ?_)
        · refine lv_lload_n hx hb d_M_divide_JJI_103 rfl (lv_at hl 2 rfl) ?_
          refine lv_iload hx hb d_M_divide_JJI_104 (lv_at hl 3 rfl) ?_
          refine pu_i (As := [.long x2, .int x4]) (rest := []) ⟨hx, hb, hml, hown, hts⟩ (c_M_isZero_JI l _ x2 x4) pu_pre (gw_call (k := 2) hts tw_579 tw_580 tw_4 tw_581 (by decide +kernel) rfl rfl ⟨Nat.le_of_ble_eq_true rfl, Nat.le_of_ble_eq_true rfl⟩) rfl hl.1 rfl (Nat.le_of_ble_eq_true rfl) ⟨Nat.zero_le _, Nat.zero_le _⟩ d_M_divide_JJI_106 ?_
          refine lv_if_eq (tgt := 142) hx hb d_M_divide_JJI_109 (by decide) (fun c5 => ?_) (fun c5 => ?_)
          · refine lv_lload_n hx hb d_M_divide_JJI_142 rfl (lv_at hl 1 rfl) ?_
            refine lv_iload hx hb d_M_divide_JJI_143 (lv_at hl 3 rfl) ?_
            refine pu_i (As := [.long x0, .int x4]) (rest := []) ⟨hx, hb, hml, hown, hts⟩ (c_M_isZero_JI l _ x0 x4) pu_pre (gw_call (k := 2) hts tw_579 tw_580 tw_4 tw_581 (by decide +kernel) rfl rfl ⟨Nat.le_of_ble_eq_true rfl, Nat.le_of_ble_eq_true rfl⟩) rfl hl.1 rfl (Nat.le_of_ble_eq_true rfl) ⟨Nat.zero_le _, Nat.zero_le _⟩ d_M_divide_JJI_145 ?_
            refine lv_if_eq (tgt := 160) hx hb d_M_divide_JJI_148 (by decide) (fun c6 => ?_) (fun c6 => ?_)
            · refine lv_lload_n hx hb d_M_divide_JJI_160 rfl (lv_at hl 1 rfl) ?_
              refine lv_iload hx hb d_M_divide_JJI_161 (lv_at hl 3 rfl) ?_
              refine pu_l (As := [.long x0, .int x4]) (rest := []) ⟨hx, hb, hml, hown, hts⟩ (c_M_whole_JI l _ t0 t1 t2 x0 x4 hk_x4) (pr_pre hRT) (gw_call (k := 2) hts tw_525 tw_526 tw_4 tw_527 (by decide +kernel) rfl rfl ⟨Nat.le_of_ble_eq_true rfl, Nat.le_of_ble_eq_true rfl⟩) rfl hl.1 rfl (Nat.le_of_ble_eq_true rfl) ⟨Nat.zero_le _, Nat.zero_le _⟩ d_M_divide_JJI_163 ?_
              refine lv_topl (fun v7 e7 => ?_)
              refine lv_lstore (lv' := [(6, .long v7), (5, .int s0), (0, .long x0), (2, .long x2), (4, .int x4)]) hx hb d_M_divide_JJI_166 hl (by decide) rfl (fun ls hl => ?_)
              refine lv_lload_n hx hb d_M_divide_JJI_168 rfl (lv_at hl 3 rfl) ?_
              refine lv_iload hx hb d_M_divide_JJI_169 (lv_at hl 4 rfl) ?_
              refine pu_l (As := [.long x2, .int x4]) (rest := []) ⟨hx, hb, hml, hown, hts⟩ (c_M_whole_JI l _ t0 t1 t2 x2 x4 hk_x4) (pr_pre hRT) (gw_call (k := 2) hts tw_525 tw_526 tw_4 tw_527 (by decide +kernel) rfl rfl ⟨Nat.le_of_ble_eq_true rfl, Nat.le_of_ble_eq_true rfl⟩) rfl hl.1 rfl (Nat.le_of_ble_eq_true rfl) ⟨Nat.zero_le _, Nat.zero_le _⟩ d_M_divide_JJI_171 ?_
              refine lv_topl (fun v8 e8 => ?_)
              refine lv_lstore (lv' := [(8, .long v8), (6, .long v7), (5, .int s0), (0, .long x0), (2, .long x2), (4, .int x4)]) hx hb d_M_divide_JJI_174 hl (by decide) rfl (fun ls hl => ?_)
              refine lv_lload_n hx hb d_M_divide_JJI_176 rfl (lv_at hl 3 rfl) ?_
              refine lv_iload hx hb d_M_divide_JJI_177 (lv_at hl 5 rfl) ?_
              refine pu_i (As := [.long x0, .int x4]) (rest := []) ⟨hx, hb, hml, hown, hts⟩ (c_M_power_JI l _ t0 t1 t2 x0 x4 hk_x4) (pr_pre hRT) (gw_call (k := 2) hts tw_530 tw_531 tw_4 tw_532 (by decide +kernel) rfl rfl ⟨Nat.le_of_ble_eq_true rfl, Nat.le_of_ble_eq_true rfl⟩) rfl hl.1 rfl (Nat.le_of_ble_eq_true rfl) ⟨Nat.zero_le _, Nat.zero_le _⟩ d_M_divide_JJI_179 ?_
              refine lv_lload hx hb d_M_divide_JJI_182 (lv_at hl 1 rfl) ?_
              refine lv_iload hx hb d_M_divide_JJI_184 (lv_at hl 5 rfl) ?_
              refine pu_i (As := [.long v7, .int x4]) (rest := [.int (f_M_power_JI x0 x4)]) ⟨hx, hb, hml, hown, hts⟩ (c_M_moved_JI l _ t0 t1 t2 v7 x4 hk_x4) (pr_pre hRT) (gw_call (k := 2) hts tw_582 tw_583 tw_4 tw_584 (by decide +kernel) rfl rfl ⟨Nat.le_of_ble_eq_true rfl, Nat.le_of_ble_eq_true rfl⟩) rfl hl.1 rfl (Nat.le_of_ble_eq_true rfl) ⟨Nat.zero_le _, Nat.zero_le _⟩ d_M_divide_JJI_186 ?_
              refine lv_isub hx hb d_M_divide_JJI_189 ?_
              refine lv_lload_n hx hb d_M_divide_JJI_190 rfl (lv_at hl 4 rfl) ?_
              refine lv_iload hx hb d_M_divide_JJI_191 (lv_at hl 5 rfl) ?_
              refine pu_i (As := [.long x2, .int x4]) (rest := [.int ((f_M_power_JI x0 x4) - (f_M_moved_JI v7 x4))]) ⟨hx, hb, hml, hown, hts⟩ (c_M_power_JI l _ t0 t1 t2 x2 x4 hk_x4) (pr_pre hRT) (gw_call (k := 2) hts tw_530 tw_531 tw_4 tw_532 (by decide +kernel) rfl rfl ⟨Nat.le_of_ble_eq_true rfl, Nat.le_of_ble_eq_true rfl⟩) rfl hl.1 rfl (Nat.le_of_ble_eq_true rfl) ⟨Nat.zero_le _, Nat.zero_le _⟩ d_M_divide_JJI_193 ?_
              refine lv_isub hx hb d_M_divide_JJI_196 ?_
              refine lv_lload hx hb d_M_divide_JJI_197 (lv_at hl 0 rfl) ?_
              refine lv_iload hx hb d_M_divide_JJI_199 (lv_at hl 5 rfl) ?_
              refine pu_i (As := [.long v8, .int x4]) (rest := [.int (((f_M_power_JI x0 x4) - (f_M_moved_JI v7 x4)) - (f_M_power_JI x2 x4))]) ⟨hx, hb, hml, hown, hts⟩ (c_M_moved_JI l _ t0 t1 t2 v8 x4 hk_x4) (pr_pre hRT) (gw_call (k := 2) hts tw_582 tw_583 tw_4 tw_584 (by decide +kernel) rfl rfl ⟨Nat.le_of_ble_eq_true rfl, Nat.le_of_ble_eq_true rfl⟩) rfl hl.1 rfl (Nat.le_of_ble_eq_true rfl) ⟨Nat.zero_le _, Nat.zero_le _⟩ d_M_divide_JJI_201 ?_
              refine lv_iadd hx hb d_M_divide_JJI_204 ?_
              refine lv_topi (fun v9 e9 => ?_)
              refine lv_istore (lv' := [(10, .int v9), (8, .long v8), (6, .long v7), (5, .int s0), (0, .long x0), (2, .long x2), (4, .int x4)]) hx hb d_M_divide_JJI_205 hl (by decide) rfl (fun ls hl => ?_)
              refine lv_lload hx hb d_M_divide_JJI_207 (lv_at hl 2 rfl) ?_
              refine lv_lload hx hb d_M_divide_JJI_209 (lv_at hl 2 rfl) ?_
              refine lv_iload hx hb d_M_divide_JJI_211 (lv_at hl 6 rfl) ?_
              refine pu_i (As := [.long v7, .int x4]) (rest := [.long v7]) ⟨hx, hb, hml, hown, hts⟩ (c_M_moved_JI l _ t0 t1 t2 v7 x4 hk_x4) (pr_pre hRT) (gw_call (k := 2) hts tw_582 tw_583 tw_4 tw_584 (by decide +kernel) rfl rfl ⟨Nat.le_of_ble_eq_true rfl, Nat.le_of_ble_eq_true rfl⟩) rfl hl.1 rfl (Nat.le_of_ble_eq_true rfl) ⟨Nat.zero_le _, Nat.zero_le _⟩ d_M_divide_JJI_213 ?_
              refine lv_lshl (v := j_shl v7 (f_M_moved_JI v7 x4)) hx hb d_M_divide_JJI_216 rfl ?_
              refine lv_topl (fun v10 e10 => ?_)
              refine lv_lstore (lv' := [(6, .long v10), (10, .int v9), (8, .long v8), (5, .int s0), (0, .long x0), (2, .long x2), (4, .int x4)]) hx hb d_M_divide_JJI_217 hl (by decide) rfl (fun ls hl => ?_)
              refine lv_lload hx hb d_M_divide_JJI_219 (lv_at hl 2 rfl) ?_
              refine lv_lload hx hb d_M_divide_JJI_221 (lv_at hl 2 rfl) ?_
              refine lv_iload hx hb d_M_divide_JJI_223 (lv_at hl 6 rfl) ?_
              refine pu_i (As := [.long v8, .int x4]) (rest := [.long v8]) ⟨hx, hb, hml, hown, hts⟩ (c_M_moved_JI l _ t0 t1 t2 v8 x4 hk_x4) (pr_pre hRT) (gw_call (k := 2) hts tw_582 tw_583 tw_4 tw_584 (by decide +kernel) rfl rfl ⟨Nat.le_of_ble_eq_true rfl, Nat.le_of_ble_eq_true rfl⟩) rfl hl.1 rfl (Nat.le_of_ble_eq_true rfl) ⟨Nat.zero_le _, Nat.zero_le _⟩ d_M_divide_JJI_225 ?_
              refine lv_lshl (v := j_shl v8 (f_M_moved_JI v8 x4)) hx hb d_M_divide_JJI_228 rfl ?_
              refine lv_topl (fun v11 e11 => ?_)
              refine lv_lstore (lv' := [(8, .long v11), (6, .long v10), (10, .int v9), (5, .int s0), (0, .long x0), (2, .long x2), (4, .int x4)]) hx hb d_M_divide_JJI_229 hl (by decide) rfl (fun ls hl => ?_)
              refine lv_lload hx hb d_M_divide_JJI_231 (lv_at hl 1 rfl) ?_
              refine lv_lload hx hb d_M_divide_JJI_233 (lv_at hl 0 rfl) ?_
              refine W.lcmp hx hb d_M_divide_JJI_235 ?_
              refine lv_if_lt (tgt := 243) hx hb d_M_divide_JJI_236 (by decide) (fun c12 => ?_) (fun c12 => ?_)
              · refine lv_lconst (v := (0 : Int64)) hx hb d_M_divide_JJI_243 (by decide) ?_
                exact k_M_divide_JJI_244 C0 hRT x4 s0 v10 v11 v9 (0 : Int64) hk_x4 ls (lv_sub hl [6, 3, 1, 0, 2] rfl) (by have qe7 := e7.symm; have qe8 := e8.symm; have qe9 := e9.symm; have qe10 := e10.symm; have qe11 := e11.symm; subst qe7 qe8 qe9 qe10 qe11; exact (hw.trans (Eq.trans (if_pos c1) (Eq.trans (if_pos c2) (Eq.trans (if_pos c3) (Eq.trans (if_pos c4) (Eq.trans (if_pos c5) (Eq.trans (if_pos c6) (if_pos c12)))))))))
              · refine lv_lconst (v := (1 : Int64)) hx hb d_M_divide_JJI_239 (by decide) ?_
                refine lv_goto (tgt := 244) hx hb d_M_divide_JJI_240 (by decide) ?_
                exact k_M_divide_JJI_244 C0 hRT x4 s0 v10 v11 v9 (1 : Int64) hk_x4 ls (lv_sub hl [6, 3, 1, 0, 2] rfl) (by have qe7 := e7.symm; have qe8 := e8.symm; have qe9 := e9.symm; have qe10 := e10.symm; have qe11 := e11.symm; subst qe7 qe8 qe9 qe10 qe11; exact (hw.trans (Eq.trans (if_pos c1) (Eq.trans (if_pos c2) (Eq.trans (if_pos c3) (Eq.trans (if_pos c4) (Eq.trans (if_pos c5) (Eq.trans (if_pos c6) (if_neg c12)))))))))
            · refine lv_lconst (v := (0 : Int64)) hx hb d_M_divide_JJI_151 (by decide) ?_
              refine lv_iload hx hb d_M_divide_JJI_152 (lv_at hl 0 rfl) ?_
              refine lv_iload hx hb d_M_divide_JJI_154 (lv_at hl 3 rfl) ?_
              refine pu_l (As := [.long (0 : Int64), .int s0, .int x4]) (rest := []) ⟨hx, hb, hml, hown, hts⟩ (c_M_signed_JZI l _ (0 : Int64) s0 x4) pu_pre (gw_call (k := 3) hts tw_522 tw_523 tw_4 tw_524 (by decide +kernel) rfl rfl ⟨Nat.le_of_ble_eq_true rfl, Nat.le_of_ble_eq_true rfl⟩) rfl hl.1 rfl (Nat.le_of_ble_eq_true rfl) ⟨Nat.zero_le _, Nat.zero_le _⟩ d_M_divide_JJI_156 ?_
              exact pu_lret hx hb hr hlocks d_M_divide_JJI_159 (by exact Eq.symm (hw.trans (Eq.trans (if_pos c1) (Eq.trans (if_pos c2) (Eq.trans (if_pos c3) (Eq.trans (if_pos c4) (Eq.trans (if_pos c5) (if_neg c6))))))))
          · refine lv_lload_n hx hb d_M_divide_JJI_112 rfl (lv_at hl 1 rfl) ?_
            refine lv_iload hx hb d_M_divide_JJI_113 (lv_at hl 3 rfl) ?_
            refine pu_i (As := [.long x0, .int x4]) (rest := []) ⟨hx, hb, hml, hown, hts⟩ (c_M_isZero_JI l _ x0 x4) pu_pre (gw_call (k := 2) hts tw_579 tw_580 tw_4 tw_581 (by decide +kernel) rfl rfl ⟨Nat.le_of_ble_eq_true rfl, Nat.le_of_ble_eq_true rfl⟩) rfl hl.1 rfl (Nat.le_of_ble_eq_true rfl) ⟨Nat.zero_le _, Nat.zero_le _⟩ d_M_divide_JJI_115 ?_
            refine lv_if_eq (tgt := 129) hx hb d_M_divide_JJI_118 (by decide) (fun c13 => ?_) (fun c13 => ?_)
            · refine lv_iload hx hb d_M_divide_JJI_129 (lv_at hl 3 rfl) ?_
              refine pu_l (As := [.int x4]) (rest := []) ⟨hx, hb, hml, hown, hts⟩ (c_M_infinite_I l _ x4) pu_pre (gw_call (k := 1) hts tw_507 tw_508 tw_4 tw_509 (by decide +kernel) rfl rfl ⟨Nat.le_of_ble_eq_true rfl, Nat.le_of_ble_eq_true rfl⟩) rfl hl.1 rfl (Nat.le_of_ble_eq_true rfl) ⟨Nat.zero_le _, Nat.zero_le _⟩ d_M_divide_JJI_131 ?_
              refine lv_iload hx hb d_M_divide_JJI_134 (lv_at hl 0 rfl) ?_
              refine lv_iload hx hb d_M_divide_JJI_136 (lv_at hl 3 rfl) ?_
              refine pu_l (As := [.long (f_M_infinite_I x4), .int s0, .int x4]) (rest := []) ⟨hx, hb, hml, hown, hts⟩ (c_M_signed_JZI l _ (f_M_infinite_I x4) s0 x4) pu_pre (gw_call (k := 3) hts tw_522 tw_523 tw_4 tw_524 (by decide +kernel) rfl rfl ⟨Nat.le_of_ble_eq_true rfl, Nat.le_of_ble_eq_true rfl⟩) rfl hl.1 rfl (Nat.le_of_ble_eq_true rfl) ⟨Nat.zero_le _, Nat.zero_le _⟩ d_M_divide_JJI_138 ?_
              exact pu_lret hx hb hr hlocks d_M_divide_JJI_141 (by exact Eq.symm (hw.trans (Eq.trans (if_pos c1) (Eq.trans (if_pos c2) (Eq.trans (if_pos c3) (Eq.trans (if_pos c4) (Eq.trans (if_neg c5) (if_pos c13))))))))
            · refine lv_iload hx hb d_M_divide_JJI_121 (lv_at hl 3 rfl) ?_
              refine pu_l (As := [.int x4]) (rest := []) ⟨hx, hb, hml, hown, hts⟩ (c_M_none_I l _ x4) pu_pre (gw_call (k := 1) hts tw_511 tw_512 tw_4 tw_513 (by decide +kernel) rfl rfl ⟨Nat.le_of_ble_eq_true rfl, Nat.le_of_ble_eq_true rfl⟩) rfl hl.1 rfl (Nat.le_of_ble_eq_true rfl) ⟨Nat.zero_le _, Nat.zero_le _⟩ d_M_divide_JJI_123 ?_
              refine lv_goto (tgt := 141) hx hb d_M_divide_JJI_126 (by decide) ?_
              exact pu_lret hx hb hr hlocks d_M_divide_JJI_141 (by exact Eq.symm (hw.trans (Eq.trans (if_pos c1) (Eq.trans (if_pos c2) (Eq.trans (if_pos c3) (Eq.trans (if_pos c4) (Eq.trans (if_neg c5) (if_neg c13))))))))
        · refine lv_lconst (v := (0 : Int64)) hx hb d_M_divide_JJI_94 (by decide) ?_
          refine lv_iload hx hb d_M_divide_JJI_95 (lv_at hl 0 rfl) ?_
          refine lv_iload hx hb d_M_divide_JJI_97 (lv_at hl 3 rfl) ?_
          refine pu_l (As := [.long (0 : Int64), .int s0, .int x4]) (rest := []) ⟨hx, hb, hml, hown, hts⟩ (c_M_signed_JZI l _ (0 : Int64) s0 x4) pu_pre (gw_call (k := 3) hts tw_522 tw_523 tw_4 tw_524 (by decide +kernel) rfl rfl ⟨Nat.le_of_ble_eq_true rfl, Nat.le_of_ble_eq_true rfl⟩) rfl hl.1 rfl (Nat.le_of_ble_eq_true rfl) ⟨Nat.zero_le _, Nat.zero_le _⟩ d_M_divide_JJI_99 ?_
          exact pu_lret hx hb hr hlocks d_M_divide_JJI_102 (by exact Eq.symm (hw.trans (Eq.trans (if_pos c1) (Eq.trans (if_pos c2) (Eq.trans (if_pos c3) (if_neg c4))))))
      · refine lv_lload_n hx hb d_M_divide_JJI_55 rfl (lv_at hl 2 rfl) ?_
        refine lv_iload hx hb d_M_divide_JJI_56 (lv_at hl 3 rfl) ?_
        refine pu_i (As := [.long x2, .int x4]) (rest := []) ⟨hx, hb, hml, hown, hts⟩ (c_M_isInfinite_JI l _ x2 x4) pu_pre (gw_call (k := 2) hts tw_516 tw_517 tw_4 tw_518 (by decide +kernel) rfl rfl ⟨Nat.le_of_ble_eq_true rfl, Nat.le_of_ble_eq_true rfl⟩) rfl hl.1 rfl (Nat.le_of_ble_eq_true rfl) ⟨Nat.zero_le _, Nat.zero_le _⟩ d_M_divide_JJI_58 ?_
        refine lv_if_eq (tgt := 72) hx hb d_M_divide_JJI_61 (by decide) (fun c14 => ?_) (fun c14 => ?_)
        · refine lv_iload hx hb d_M_divide_JJI_72 (lv_at hl 3 rfl) ?_
          refine pu_l (As := [.int x4]) (rest := []) ⟨hx, hb, hml, hown, hts⟩ (c_M_infinite_I l _ x4) pu_pre (gw_call (k := 1) hts tw_507 tw_508 tw_4 tw_509 (by decide +kernel) rfl rfl ⟨Nat.le_of_ble_eq_true rfl, Nat.le_of_ble_eq_true rfl⟩) rfl hl.1 rfl (Nat.le_of_ble_eq_true rfl) ⟨Nat.zero_le _, Nat.zero_le _⟩ d_M_divide_JJI_74 ?_
          refine lv_iload hx hb d_M_divide_JJI_77 (lv_at hl 0 rfl) ?_
          refine lv_iload hx hb d_M_divide_JJI_79 (lv_at hl 3 rfl) ?_
          refine pu_l (As := [.long (f_M_infinite_I x4), .int s0, .int x4]) (rest := []) ⟨hx, hb, hml, hown, hts⟩ (c_M_signed_JZI l _ (f_M_infinite_I x4) s0 x4) pu_pre (gw_call (k := 3) hts tw_522 tw_523 tw_4 tw_524 (by decide +kernel) rfl rfl ⟨Nat.le_of_ble_eq_true rfl, Nat.le_of_ble_eq_true rfl⟩) rfl hl.1 rfl (Nat.le_of_ble_eq_true rfl) ⟨Nat.zero_le _, Nat.zero_le _⟩ d_M_divide_JJI_81 ?_
          exact pu_lret hx hb hr hlocks d_M_divide_JJI_84 (by exact Eq.symm (hw.trans (Eq.trans (if_pos c1) (Eq.trans (if_pos c2) (Eq.trans (if_neg c3) (if_pos c14))))))
        · refine lv_iload hx hb d_M_divide_JJI_64 (lv_at hl 3 rfl) ?_
          refine pu_l (As := [.int x4]) (rest := []) ⟨hx, hb, hml, hown, hts⟩ (c_M_none_I l _ x4) pu_pre (gw_call (k := 1) hts tw_511 tw_512 tw_4 tw_513 (by decide +kernel) rfl rfl ⟨Nat.le_of_ble_eq_true rfl, Nat.le_of_ble_eq_true rfl⟩) rfl hl.1 rfl (Nat.le_of_ble_eq_true rfl) ⟨Nat.zero_le _, Nat.zero_le _⟩ d_M_divide_JJI_66 ?_
          refine lv_goto (tgt := 84) hx hb d_M_divide_JJI_69 (by decide) ?_
          exact pu_lret hx hb hr hlocks d_M_divide_JJI_84 (by exact Eq.symm (hw.trans (Eq.trans (if_pos c1) (Eq.trans (if_pos c2) (Eq.trans (if_neg c3) (if_neg c14))))))
    · refine lv_iload hx hb d_M_divide_JJI_40 (lv_at hl 3 rfl) ?_
      refine pu_l (As := [.int x4]) (rest := []) ⟨hx, hb, hml, hown, hts⟩ (c_M_none_I l _ x4) pu_pre (gw_call (k := 1) hts tw_511 tw_512 tw_4 tw_513 (by decide +kernel) rfl rfl ⟨Nat.le_of_ble_eq_true rfl, Nat.le_of_ble_eq_true rfl⟩) rfl hl.1 rfl (Nat.le_of_ble_eq_true rfl) ⟨Nat.zero_le _, Nat.zero_le _⟩ d_M_divide_JJI_42 ?_
      exact pu_lret hx hb hr hlocks d_M_divide_JJI_45 (by exact Eq.symm (hw.trans (Eq.trans (if_pos c1) (if_neg c2))))
def f_M_divide_JJI (x0 : Int64) (x2 : Int64) (x4 : Int32) : Int64 :=
  if (f_M_minus_JI x0 x4) = (f_M_minus_JI x2 x4) then
    f_M_divide_JJI_20 x0 x2 x4 (0 : Int32)
  else
    f_M_divide_JJI_20 x0 x2 x4 (1 : Int32)
set_option maxHeartbeats 4000000 in
set_option maxRecDepth 100000 in
theorem c_M_divide_JJI (l : Launch) (h : Heap) (t0 t1 t2 : Nat) (x0 : Int64) (x2 : Int64) (x4 : Int32) (hk_x4 : vp_in x4 2) : Met l y_M_divide_JJI (gw y_M_divide_JJI b_M_divide_JJI 16 (some .long)) { frames := 3, cells := 0, slots := 0, locals := 77 } (pr_Pc [.long x0, .long x2, .int x4] h t0 t1 t2) (pu_Ml (f_M_divide_JJI x0 x2 x4) h) 0 0 (fun _ => False) := by
  refine Met.ofW (cc := b_M_divide_JJI) (maxL := 16) (ret := (some .long)) (by decide) rfl ?_
  intro p e s m args below meth c s₁ B hml hv
  obtain ⟨rfl, hh, hRT⟩ := hv
  subst hh
  obtain ⟨hT0, hT1, hT2⟩ := id hRT
  have hx := B.exec
  have hb := B.bytes
  have hr := B.returns
  have hts := atoms_spec (ws := (gw y_M_divide_JJI b_M_divide_JJI 16 (some .long))) B.pre
  have hown : s.vm.findClass "MotionLabModel" = some m.cls := findClass_of_methodNamed B.named
  have hlocks := B.notSynchronized
  have C0 : pu_C p s m _ meth c b_M_divide_JJI 16 "MotionLabModel" (some .long) (gw y_M_divide_JJI b_M_divide_JJI 16 (some .long)) := ⟨hx, hb, hml, hown, hts, hr, hlocks⟩
  have hl := lv_entry ([.long x0, .long x2, .int x4]) (n := 16) (Nat.le_of_ble_eq_true rfl)
  rw [lg_entry_eq]
  generalize (lg_sl ([.long x0, .long x2, .int x4]) ++ List.replicate (16 - (lg_sl ([.long x0, .long x2, .int x4])).length) Slot.unset).toArray = ls at hl ⊢
  have hl : lv_has ls 16 [(0, .long x0), (2, .long x2), (4, .int x4)] := hl
  refine lv_lload_n hx hb d_M_divide_JJI_0 rfl (lv_at hl 0 rfl) ?_
  refine lv_iload hx hb d_M_divide_JJI_1 (lv_at hl 2 rfl) ?_
  refine pu_i (As := [.long x0, .int x4]) (rest := []) ⟨hx, hb, hml, hown, hts⟩ (c_M_minus_JI l _ x0 x4) pu_pre (gw_call (k := 2) hts tw_519 tw_520 tw_4 tw_521 (by decide +kernel) rfl rfl ⟨Nat.le_of_ble_eq_true rfl, Nat.le_of_ble_eq_true rfl⟩) rfl hl.1 rfl (Nat.le_of_ble_eq_true rfl) ⟨Nat.zero_le _, Nat.zero_le _⟩ d_M_divide_JJI_3 ?_
  refine lv_lload_n hx hb d_M_divide_JJI_6 rfl (lv_at hl 1 rfl) ?_
  refine lv_iload hx hb d_M_divide_JJI_7 (lv_at hl 2 rfl) ?_
  refine pu_i (As := [.long x2, .int x4]) (rest := [.int (f_M_minus_JI x0 x4)]) ⟨hx, hb, hml, hown, hts⟩ (c_M_minus_JI l _ x2 x4) pu_pre (gw_call (k := 2) hts tw_519 tw_520 tw_4 tw_521 (by decide +kernel) rfl rfl ⟨Nat.le_of_ble_eq_true rfl, Nat.le_of_ble_eq_true rfl⟩) rfl hl.1 rfl (Nat.le_of_ble_eq_true rfl) ⟨Nat.zero_le _, Nat.zero_le _⟩ d_M_divide_JJI_9 ?_
  refine lv_icmp_eq (tgt := 19) hx hb d_M_divide_JJI_12 (by decide) (fun c1 => ?_) (fun c1 => ?_)
  · refine lv_iconst (v := 0) hx hb d_M_divide_JJI_19 (by decide) ?_
    exact k_M_divide_JJI_20 C0 hRT x0 x2 x4 (0 : Int32) hk_x4 ls (lv_sub hl [0, 1, 2] rfl) (by exact (if_pos c1))
  · refine lv_iconst (v := 1) hx hb d_M_divide_JJI_15 (by decide) ?_
    refine lv_goto (tgt := 20) hx hb d_M_divide_JJI_16 (by decide) ?_
    exact k_M_divide_JJI_20 C0 hRT x0 x2 x4 (1 : Int32) hk_x4 ls (lv_sub hl [0, 1, 2] rfl) (by exact (if_neg c1))
-- ===== MotionLabModel.divide(JJ)J
abbrev y_M_divide_JJ : MethodName := ⟨"MotionLabModel", "divide", "(JJ)J"⟩
abbrev b_M_divide_JJ : ByteArray := prog_6_method_29_code
theorem d_M_divide_JJ_0 : decode b_M_divide_JJ 0 = .ok (.lload_n 0, 1) := by decide +kernel
theorem d_M_divide_JJ_1 : decode b_M_divide_JJ 1 = .ok (.lload_n 2, 1) := by decide +kernel
theorem d_M_divide_JJ_2 : decode b_M_divide_JJ 2 = .ok (.iconst 0, 1) := by decide +kernel
theorem d_M_divide_JJ_3 : decode b_M_divide_JJ 3 = .ok (.invokestatic 113, 3) := by decide +kernel
theorem d_M_divide_JJ_6 : decode b_M_divide_JJ 6 = .ok (.lreturn, 1) := by decide +kernel
def f_M_divide_JJ (x0 : Int64) (x2 : Int64) : Int64 :=
  f_M_divide_JJI x0 x2 (0 : Int32)
set_option maxHeartbeats 4000000 in
set_option maxRecDepth 100000 in
theorem c_M_divide_JJ (l : Launch) (h : Heap) (t0 t1 t2 : Nat) (x0 : Int64) (x2 : Int64) : Met l y_M_divide_JJ (gw y_M_divide_JJ b_M_divide_JJ 4 (some .long)) { frames := 4, cells := 0, slots := 0, locals := 112 } (pr_Pc [.long x0, .long x2] h t0 t1 t2) (pu_Ml (f_M_divide_JJ x0 x2) h) 0 0 (fun _ => False) := by
  refine Met.ofW (cc := b_M_divide_JJ) (maxL := 4) (ret := (some .long)) (by decide) rfl ?_
  intro p e s m args below meth c s₁ B hml hv
  obtain ⟨rfl, hh, hRT⟩ := hv
  subst hh
  obtain ⟨hT0, hT1, hT2⟩ := id hRT
  have hx := B.exec
  have hb := B.bytes
  have hr := B.returns
  have hts := atoms_spec (ws := (gw y_M_divide_JJ b_M_divide_JJ 4 (some .long))) B.pre
  have hown : s.vm.findClass "MotionLabModel" = some m.cls := findClass_of_methodNamed B.named
  have hlocks := B.notSynchronized
  have C0 : pu_C p s m _ meth c b_M_divide_JJ 4 "MotionLabModel" (some .long) (gw y_M_divide_JJ b_M_divide_JJ 4 (some .long)) := ⟨hx, hb, hml, hown, hts, hr, hlocks⟩
  have hl := lv_entry ([.long x0, .long x2]) (n := 4) (Nat.le_of_ble_eq_true rfl)
  rw [lg_entry_eq]
  generalize (lg_sl ([.long x0, .long x2]) ++ List.replicate (4 - (lg_sl ([.long x0, .long x2])).length) Slot.unset).toArray = ls at hl ⊢
  have hl : lv_has ls 4 [(0, .long x0), (2, .long x2)] := hl
  refine lv_lload_n hx hb d_M_divide_JJ_0 rfl (lv_at hl 0 rfl) ?_
  refine lv_lload_n hx hb d_M_divide_JJ_1 rfl (lv_at hl 1 rfl) ?_
  refine lv_iconst (v := 0) hx hb d_M_divide_JJ_2 (by decide) ?_
  refine pu_l (As := [.long x0, .long x2, .int (0 : Int32)]) (rest := []) ⟨hx, hb, hml, hown, hts⟩ (c_M_divide_JJI l _ t0 t1 t2 x0 x2 (0 : Int32) (in_of (by decide) (by decide))) (pr_pre hRT) (gw_call (k := 3) hts tw_627 tw_628 tw_4 tw_629 (by decide +kernel) rfl rfl ⟨Nat.le_of_ble_eq_true rfl, Nat.le_of_ble_eq_true rfl⟩) rfl hl.1 rfl (Nat.le_of_ble_eq_true rfl) ⟨Nat.zero_le _, Nat.zero_le _⟩ d_M_divide_JJ_3 ?_
  exact pu_lret hx hb hr hlocks d_M_divide_JJ_6 (by exact Eq.symm rfl)
-- ===== MotionLabModel.root(J)J
abbrev y_M_root_J : MethodName := ⟨"MotionLabModel", "root", "(J)J"⟩
abbrev b_M_root_J : ByteArray := prog_6_method_30_code
theorem d_M_root_J_0 : decode b_M_root_J 0 = .ok (.lload_n 0, 1) := by decide +kernel
theorem d_M_root_J_1 : decode b_M_root_J 1 = .ok (.lconst 0, 1) := by decide +kernel
theorem d_M_root_J_2 : decode b_M_root_J 2 = .ok (.invokestatic 116, 3) := by decide +kernel
theorem d_M_root_J_5 : decode b_M_root_J 5 = .ok (.iconst 1, 1) := by decide +kernel
theorem d_M_root_J_6 : decode b_M_root_J 6 = .ok (.if_icmp .ne 11, 3) := by decide +kernel
theorem d_M_root_J_9 : decode b_M_root_J 9 = .ok (.lload_n 0, 1) := by decide +kernel
theorem d_M_root_J_10 : decode b_M_root_J 10 = .ok (.iconst 0, 1) := by decide +kernel
theorem d_M_root_J_11 : decode b_M_root_J 11 = .ok (.invokestatic 63, 3) := by decide +kernel
theorem d_M_root_J_14 : decode b_M_root_J 14 = .ok (.ifCond .eq 5, 3) := by decide +kernel
theorem d_M_root_J_17 : decode b_M_root_J 17 = .ok (.lload_n 0, 1) := by decide +kernel
theorem d_M_root_J_18 : decode b_M_root_J 18 = .ok (.lreturn, 1) := by decide +kernel
theorem d_M_root_J_19 : decode b_M_root_J 19 = .ok (.lload_n 0, 1) := by decide +kernel
theorem d_M_root_J_20 : decode b_M_root_J 20 = .ok (.iconst 1, 1) := by decide +kernel
theorem d_M_root_J_21 : decode b_M_root_J 21 = .ok (.lshr, 1) := by decide +kernel
theorem d_M_root_J_22 : decode b_M_root_J 22 = .ok (.ldc2_w 119, 3) := by decide +kernel
theorem d_M_root_J_25 : decode b_M_root_J 25 = .ok (.ladd, 1) := by decide +kernel
theorem d_M_root_J_26 : decode b_M_root_J 26 = .ok (.lstore_n 2, 1) := by decide +kernel
theorem d_M_root_J_27 : decode b_M_root_J 27 = .ok (.iconst 0, 1) := by decide +kernel
theorem d_M_root_J_28 : decode b_M_root_J 28 = .ok (.istore 4, 2) := by decide +kernel
theorem d_M_root_J_30 : decode b_M_root_J 30 = .ok (.iload 4, 2) := by decide +kernel
theorem d_M_root_J_32 : decode b_M_root_J 32 = .ok (.iconst 5, 1) := by decide +kernel
theorem d_M_root_J_33 : decode b_M_root_J 33 = .ok (.if_icmp .ge 25, 3) := by decide +kernel
theorem d_M_root_J_36 : decode b_M_root_J 36 = .ok (.lload_n 2, 1) := by decide +kernel
theorem d_M_root_J_37 : decode b_M_root_J 37 = .ok (.lload_n 0, 1) := by decide +kernel
theorem d_M_root_J_38 : decode b_M_root_J 38 = .ok (.lload_n 2, 1) := by decide +kernel
theorem d_M_root_J_39 : decode b_M_root_J 39 = .ok (.invokestatic 121, 3) := by decide +kernel
theorem d_M_root_J_42 : decode b_M_root_J 42 = .ok (.invokestatic 123, 3) := by decide +kernel
theorem d_M_root_J_45 : decode b_M_root_J 45 = .ok (.ldc2_w 125, 3) := by decide +kernel
theorem d_M_root_J_48 : decode b_M_root_J 48 = .ok (.invokestatic 121, 3) := by decide +kernel
theorem d_M_root_J_51 : decode b_M_root_J 51 = .ok (.lstore_n 2, 1) := by decide +kernel
theorem d_M_root_J_52 : decode b_M_root_J 52 = .ok (.iinc 4 1, 3) := by decide +kernel
theorem d_M_root_J_55 : decode b_M_root_J 55 = .ok (.goto (-25), 3) := by decide +kernel
theorem d_M_root_J_58 : decode b_M_root_J 58 = .ok (.lload_n 2, 1) := by decide +kernel
theorem d_M_root_J_59 : decode b_M_root_J 59 = .ok (.lreturn, 1) := by decide +kernel
def f_M_root_J (x0 : Int64) : Int64 :=
  if (f_M_order_JJ x0 (0 : Int64)) = (1 : Int32) then
    if (f_M_isInfinite_JI x0 (0 : Int32)) = 0 then
      let v3 : Int64 := (j_shr x0 (1 : Int32)) + (2303591209400008704 : Int64)
      let v4 : Int64 := f_M_divide_JJ (f_M_add_JJ v3 (f_M_divide_JJ x0 v3)) (4611686018427387904 : Int64)
      let v5 : Int64 := f_M_divide_JJ (f_M_add_JJ v4 (f_M_divide_JJ x0 v4)) (4611686018427387904 : Int64)
      let v6 : Int64 := f_M_divide_JJ (f_M_add_JJ v5 (f_M_divide_JJ x0 v5)) (4611686018427387904 : Int64)
      let v7 : Int64 := f_M_divide_JJ (f_M_add_JJ v6 (f_M_divide_JJ x0 v6)) (4611686018427387904 : Int64)
      let v8 : Int64 := f_M_divide_JJ (f_M_add_JJ v7 (f_M_divide_JJ x0 v7)) (4611686018427387904 : Int64)
      v8
    else
      x0
  else
    x0
set_option maxHeartbeats 4000000 in
set_option maxRecDepth 100000 in
theorem c_M_root_J (l : Launch) (h : Heap) (t0 t1 t2 : Nat) (x0 : Int64) : Met l y_M_root_J (gw y_M_root_J b_M_root_J 5 (some .long)) { frames := 5, cells := 0, slots := 0, locals := 138 } (pr_Pc [.long x0] h t0 t1 t2) (pu_Ml (f_M_root_J x0) h) 0 0 (fun _ => False) := by
  refine Met.ofW (cc := b_M_root_J) (maxL := 5) (ret := (some .long)) (by decide) rfl ?_
  intro p e s m args below meth c s₁ B hml hv
  obtain ⟨rfl, hh, hRT⟩ := hv
  subst hh
  obtain ⟨hT0, hT1, hT2⟩ := id hRT
  have hx := B.exec
  have hb := B.bytes
  have hr := B.returns
  have hts := atoms_spec (ws := (gw y_M_root_J b_M_root_J 5 (some .long))) B.pre
  have hown : s.vm.findClass "MotionLabModel" = some m.cls := findClass_of_methodNamed B.named
  have hlocks := B.notSynchronized
  have C0 : pu_C p s m _ meth c b_M_root_J 5 "MotionLabModel" (some .long) (gw y_M_root_J b_M_root_J 5 (some .long)) := ⟨hx, hb, hml, hown, hts, hr, hlocks⟩
  have hl := lv_entry ([.long x0]) (n := 5) (Nat.le_of_ble_eq_true rfl)
  rw [lg_entry_eq]
  generalize (lg_sl ([.long x0]) ++ List.replicate (5 - (lg_sl ([.long x0])).length) Slot.unset).toArray = ls at hl ⊢
  have hl : lv_has ls 5 [(0, .long x0)] := hl
  refine lv_lload_n hx hb d_M_root_J_0 rfl (lv_at hl 0 rfl) ?_
  refine lv_lconst (v := (0 : Int64)) hx hb d_M_root_J_1 (by decide) ?_
  refine pu_i (As := [.long x0, .long (0 : Int64)]) (rest := []) ⟨hx, hb, hml, hown, hts⟩ (c_M_order_JJ l _ x0 (0 : Int64)) pu_pre (gw_call (k := 2) hts tw_617 tw_618 tw_4 tw_619 (by decide +kernel) rfl rfl ⟨Nat.le_of_ble_eq_true rfl, Nat.le_of_ble_eq_true rfl⟩) rfl hl.1 rfl (Nat.le_of_ble_eq_true rfl) ⟨Nat.zero_le _, Nat.zero_le _⟩ d_M_root_J_2 ?_
  refine lv_iconst (v := 1) hx hb d_M_root_J_5 (by decide) ?_
  refine lv_icmp_ne (tgt := 17) hx hb d_M_root_J_6 (by decide) (fun c1 => ?_) (fun c1 => ?_)
  · refine lv_lload_n hx hb d_M_root_J_17 rfl (lv_at hl 0 rfl) ?_
    exact pu_lret hx hb hr hlocks d_M_root_J_18 (by exact Eq.symm (if_neg c1))
  · refine lv_lload_n hx hb d_M_root_J_9 rfl (lv_at hl 0 rfl) ?_
    refine lv_iconst (v := 0) hx hb d_M_root_J_10 (by decide) ?_
    refine pu_i (As := [.long x0, .int (0 : Int32)]) (rest := []) ⟨hx, hb, hml, hown, hts⟩ (c_M_isInfinite_JI l _ x0 (0 : Int32)) pu_pre (gw_call (k := 2) hts tw_516 tw_517 tw_4 tw_518 (by decide +kernel) rfl rfl ⟨Nat.le_of_ble_eq_true rfl, Nat.le_of_ble_eq_true rfl⟩) rfl hl.1 rfl (Nat.le_of_ble_eq_true rfl) ⟨Nat.zero_le _, Nat.zero_le _⟩ d_M_root_J_11 ?_
    refine lv_if_eq (tgt := 19) hx hb d_M_root_J_14 (by decide) (fun c2 => ?_) (fun c2 => ?_)
    · refine lv_lload_n hx hb d_M_root_J_19 rfl (lv_at hl 0 rfl) ?_
      refine lv_iconst (v := 1) hx hb d_M_root_J_20 (by decide) ?_
      refine lv_lshr (v := j_shr x0 (1 : Int32)) hx hb d_M_root_J_21 rfl ?_
      refine lv_ldc2 (v := (2303591209400008704 : Int64)) hx hb hown (hts _ (gm tw_623)) d_M_root_J_22 ?_
      refine lv_ladd hx hb d_M_root_J_25 ?_
      refine lv_topl (fun v3 e3 => ?_)
      refine lv_lstore_n (lv' := [(2, .long v3), (0, .long x0)]) hx hb d_M_root_J_26 rfl hl (by decide) rfl (fun ls hl => ?_)
      refine lv_iconst (v := 0) hx hb d_M_root_J_27 (by decide) ?_
      refine lv_istore (lv' := [(4, .int (0 : Int32)), (2, .long v3), (0, .long x0)]) hx hb d_M_root_J_28 hl (by decide) rfl (fun ls hl => ?_)
      refine lv_iload hx hb d_M_root_J_30 (lv_at hl 0 rfl) ?_
      refine lv_iconst (v := 5) hx hb d_M_root_J_32 (by decide) ?_
      refine lv_icmp_ge (tgt := 58) hx hb d_M_root_J_33 (by decide) (fun c0 => absurd c0 (by decide)) (fun _ => ?_)
      refine lv_lload_n hx hb d_M_root_J_36 rfl (lv_at hl 1 rfl) ?_
      refine lv_lload_n hx hb d_M_root_J_37 rfl (lv_at hl 2 rfl) ?_
      refine lv_lload_n hx hb d_M_root_J_38 rfl (lv_at hl 1 rfl) ?_
      refine pu_l (As := [.long x0, .long v3]) (rest := [.long v3]) ⟨hx, hb, hml, hown, hts⟩ (c_M_divide_JJ l _ t0 t1 t2 x0 v3) (pr_pre hRT) (gw_call (k := 2) hts tw_624 tw_625 tw_4 tw_626 (by decide +kernel) rfl rfl ⟨Nat.le_of_ble_eq_true rfl, Nat.le_of_ble_eq_true rfl⟩) rfl hl.1 rfl (Nat.le_of_ble_eq_true rfl) ⟨Nat.zero_le _, Nat.zero_le _⟩ d_M_root_J_39 ?_
      refine pu_l (As := [.long v3, .long (f_M_divide_JJ x0 v3)]) (rest := []) ⟨hx, hb, hml, hown, hts⟩ (c_M_add_JJ l _ t0 t1 t2 v3 (f_M_divide_JJ x0 v3)) (pr_pre hRT) (gw_call (k := 2) hts tw_611 tw_612 tw_4 tw_613 (by decide +kernel) rfl rfl ⟨Nat.le_of_ble_eq_true rfl, Nat.le_of_ble_eq_true rfl⟩) rfl hl.1 rfl (Nat.le_of_ble_eq_true rfl) ⟨Nat.zero_le _, Nat.zero_le _⟩ d_M_root_J_42 ?_
      refine lv_ldc2 (v := (4611686018427387904 : Int64)) hx hb hown (hts _ (gm tw_630)) d_M_root_J_45 ?_
      refine pu_l (As := [.long (f_M_add_JJ v3 (f_M_divide_JJ x0 v3)), .long (4611686018427387904 : Int64)]) (rest := []) ⟨hx, hb, hml, hown, hts⟩ (c_M_divide_JJ l _ t0 t1 t2 (f_M_add_JJ v3 (f_M_divide_JJ x0 v3)) (4611686018427387904 : Int64)) (pr_pre hRT) (gw_call (k := 2) hts tw_624 tw_625 tw_4 tw_626 (by decide +kernel) rfl rfl ⟨Nat.le_of_ble_eq_true rfl, Nat.le_of_ble_eq_true rfl⟩) rfl hl.1 rfl (Nat.le_of_ble_eq_true rfl) ⟨Nat.zero_le _, Nat.zero_le _⟩ d_M_root_J_48 ?_
      refine lv_topl (fun v4 e4 => ?_)
      refine lv_lstore_n (lv' := [(2, .long v4), (4, .int (0 : Int32)), (0, .long x0)]) hx hb d_M_root_J_51 rfl hl (by decide) rfl (fun ls hl => ?_)
      refine lv_iinc (v := (1 : Int32)) (lv' := [(4, .int (1 : Int32)), (2, .long v4), (0, .long x0)]) hx hb d_M_root_J_52 hl (k := 1) rfl (by decide) (by decide) rfl (fun ls hl => ?_)
      refine lv_goto (tgt := 30) hx hb d_M_root_J_55 (by decide) ?_
      refine lv_iload hx hb d_M_root_J_30 (lv_at hl 0 rfl) ?_
      refine lv_iconst (v := 5) hx hb d_M_root_J_32 (by decide) ?_
      refine lv_icmp_ge (tgt := 58) hx hb d_M_root_J_33 (by decide) (fun c0 => absurd c0 (by decide)) (fun _ => ?_)
      refine lv_lload_n hx hb d_M_root_J_36 rfl (lv_at hl 1 rfl) ?_
      refine lv_lload_n hx hb d_M_root_J_37 rfl (lv_at hl 2 rfl) ?_
      refine lv_lload_n hx hb d_M_root_J_38 rfl (lv_at hl 1 rfl) ?_
      refine pu_l (As := [.long x0, .long v4]) (rest := [.long v4]) ⟨hx, hb, hml, hown, hts⟩ (c_M_divide_JJ l _ t0 t1 t2 x0 v4) (pr_pre hRT) (gw_call (k := 2) hts tw_624 tw_625 tw_4 tw_626 (by decide +kernel) rfl rfl ⟨Nat.le_of_ble_eq_true rfl, Nat.le_of_ble_eq_true rfl⟩) rfl hl.1 rfl (Nat.le_of_ble_eq_true rfl) ⟨Nat.zero_le _, Nat.zero_le _⟩ d_M_root_J_39 ?_
      refine pu_l (As := [.long v4, .long (f_M_divide_JJ x0 v4)]) (rest := []) ⟨hx, hb, hml, hown, hts⟩ (c_M_add_JJ l _ t0 t1 t2 v4 (f_M_divide_JJ x0 v4)) (pr_pre hRT) (gw_call (k := 2) hts tw_611 tw_612 tw_4 tw_613 (by decide +kernel) rfl rfl ⟨Nat.le_of_ble_eq_true rfl, Nat.le_of_ble_eq_true rfl⟩) rfl hl.1 rfl (Nat.le_of_ble_eq_true rfl) ⟨Nat.zero_le _, Nat.zero_le _⟩ d_M_root_J_42 ?_
      refine lv_ldc2 (v := (4611686018427387904 : Int64)) hx hb hown (hts _ (gm tw_630)) d_M_root_J_45 ?_
      refine pu_l (As := [.long (f_M_add_JJ v4 (f_M_divide_JJ x0 v4)), .long (4611686018427387904 : Int64)]) (rest := []) ⟨hx, hb, hml, hown, hts⟩ (c_M_divide_JJ l _ t0 t1 t2 (f_M_add_JJ v4 (f_M_divide_JJ x0 v4)) (4611686018427387904 : Int64)) (pr_pre hRT) (gw_call (k := 2) hts tw_624 tw_625 tw_4 tw_626 (by decide +kernel) rfl rfl ⟨Nat.le_of_ble_eq_true rfl, Nat.le_of_ble_eq_true rfl⟩) rfl hl.1 rfl (Nat.le_of_ble_eq_true rfl) ⟨Nat.zero_le _, Nat.zero_le _⟩ d_M_root_J_48 ?_
      refine lv_topl (fun v5 e5 => ?_)
      refine lv_lstore_n (lv' := [(2, .long v5), (4, .int (1 : Int32)), (0, .long x0)]) hx hb d_M_root_J_51 rfl hl (by decide) rfl (fun ls hl => ?_)
      refine lv_iinc (v := (2 : Int32)) (lv' := [(4, .int (2 : Int32)), (2, .long v5), (0, .long x0)]) hx hb d_M_root_J_52 hl (k := 1) rfl (by decide) (by decide) rfl (fun ls hl => ?_)
      refine lv_goto (tgt := 30) hx hb d_M_root_J_55 (by decide) ?_
      refine lv_iload hx hb d_M_root_J_30 (lv_at hl 0 rfl) ?_
      refine lv_iconst (v := 5) hx hb d_M_root_J_32 (by decide) ?_
      refine lv_icmp_ge (tgt := 58) hx hb d_M_root_J_33 (by decide) (fun c0 => absurd c0 (by decide)) (fun _ => ?_)
      refine lv_lload_n hx hb d_M_root_J_36 rfl (lv_at hl 1 rfl) ?_
      refine lv_lload_n hx hb d_M_root_J_37 rfl (lv_at hl 2 rfl) ?_
      refine lv_lload_n hx hb d_M_root_J_38 rfl (lv_at hl 1 rfl) ?_
      refine pu_l (As := [.long x0, .long v5]) (rest := [.long v5]) ⟨hx, hb, hml, hown, hts⟩ (c_M_divide_JJ l _ t0 t1 t2 x0 v5) (pr_pre hRT) (gw_call (k := 2) hts tw_624 tw_625 tw_4 tw_626 (by decide +kernel) rfl rfl ⟨Nat.le_of_ble_eq_true rfl, Nat.le_of_ble_eq_true rfl⟩) rfl hl.1 rfl (Nat.le_of_ble_eq_true rfl) ⟨Nat.zero_le _, Nat.zero_le _⟩ d_M_root_J_39 ?_
      refine pu_l (As := [.long v5, .long (f_M_divide_JJ x0 v5)]) (rest := []) ⟨hx, hb, hml, hown, hts⟩ (c_M_add_JJ l _ t0 t1 t2 v5 (f_M_divide_JJ x0 v5)) (pr_pre hRT) (gw_call (k := 2) hts tw_611 tw_612 tw_4 tw_613 (by decide +kernel) rfl rfl ⟨Nat.le_of_ble_eq_true rfl, Nat.le_of_ble_eq_true rfl⟩) rfl hl.1 rfl (Nat.le_of_ble_eq_true rfl) ⟨Nat.zero_le _, Nat.zero_le _⟩ d_M_root_J_42 ?_
      refine lv_ldc2 (v := (4611686018427387904 : Int64)) hx hb hown (hts _ (gm tw_630)) d_M_root_J_45 ?_
      refine pu_l (As := [.long (f_M_add_JJ v5 (f_M_divide_JJ x0 v5)), .long (4611686018427387904 : Int64)]) (rest := []) ⟨hx, hb, hml, hown, hts⟩ (c_M_divide_JJ l _ t0 t1 t2 (f_M_add_JJ v5 (f_M_divide_JJ x0 v5)) (4611686018427387904 : Int64)) (pr_pre hRT) (gw_call (k := 2) hts tw_624 tw_625 tw_4 tw_626 (by decide +kernel) rfl rfl ⟨Nat.le_of_ble_eq_true rfl, Nat.le_of_ble_eq_true rfl⟩) rfl hl.1 rfl (Nat.le_of_ble_eq_true rfl) ⟨Nat.zero_le _, Nat.zero_le _⟩ d_M_root_J_48 ?_
      refine lv_topl (fun v6 e6 => ?_)
      refine lv_lstore_n (lv' := [(2, .long v6), (4, .int (2 : Int32)), (0, .long x0)]) hx hb d_M_root_J_51 rfl hl (by decide) rfl (fun ls hl => ?_)
      refine lv_iinc (v := (3 : Int32)) (lv' := [(4, .int (3 : Int32)), (2, .long v6), (0, .long x0)]) hx hb d_M_root_J_52 hl (k := 1) rfl (by decide) (by decide) rfl (fun ls hl => ?_)
      refine lv_goto (tgt := 30) hx hb d_M_root_J_55 (by decide) ?_
      refine lv_iload hx hb d_M_root_J_30 (lv_at hl 0 rfl) ?_
      refine lv_iconst (v := 5) hx hb d_M_root_J_32 (by decide) ?_
      refine lv_icmp_ge (tgt := 58) hx hb d_M_root_J_33 (by decide) (fun c0 => absurd c0 (by decide)) (fun _ => ?_)
      refine lv_lload_n hx hb d_M_root_J_36 rfl (lv_at hl 1 rfl) ?_
      refine lv_lload_n hx hb d_M_root_J_37 rfl (lv_at hl 2 rfl) ?_
      refine lv_lload_n hx hb d_M_root_J_38 rfl (lv_at hl 1 rfl) ?_
      refine pu_l (As := [.long x0, .long v6]) (rest := [.long v6]) ⟨hx, hb, hml, hown, hts⟩ (c_M_divide_JJ l _ t0 t1 t2 x0 v6) (pr_pre hRT) (gw_call (k := 2) hts tw_624 tw_625 tw_4 tw_626 (by decide +kernel) rfl rfl ⟨Nat.le_of_ble_eq_true rfl, Nat.le_of_ble_eq_true rfl⟩) rfl hl.1 rfl (Nat.le_of_ble_eq_true rfl) ⟨Nat.zero_le _, Nat.zero_le _⟩ d_M_root_J_39 ?_
      refine pu_l (As := [.long v6, .long (f_M_divide_JJ x0 v6)]) (rest := []) ⟨hx, hb, hml, hown, hts⟩ (c_M_add_JJ l _ t0 t1 t2 v6 (f_M_divide_JJ x0 v6)) (pr_pre hRT) (gw_call (k := 2) hts tw_611 tw_612 tw_4 tw_613 (by decide +kernel) rfl rfl ⟨Nat.le_of_ble_eq_true rfl, Nat.le_of_ble_eq_true rfl⟩) rfl hl.1 rfl (Nat.le_of_ble_eq_true rfl) ⟨Nat.zero_le _, Nat.zero_le _⟩ d_M_root_J_42 ?_
      refine lv_ldc2 (v := (4611686018427387904 : Int64)) hx hb hown (hts _ (gm tw_630)) d_M_root_J_45 ?_
      refine pu_l (As := [.long (f_M_add_JJ v6 (f_M_divide_JJ x0 v6)), .long (4611686018427387904 : Int64)]) (rest := []) ⟨hx, hb, hml, hown, hts⟩ (c_M_divide_JJ l _ t0 t1 t2 (f_M_add_JJ v6 (f_M_divide_JJ x0 v6)) (4611686018427387904 : Int64)) (pr_pre hRT) (gw_call (k := 2) hts tw_624 tw_625 tw_4 tw_626 (by decide +kernel) rfl rfl ⟨Nat.le_of_ble_eq_true rfl, Nat.le_of_ble_eq_true rfl⟩) rfl hl.1 rfl (Nat.le_of_ble_eq_true rfl) ⟨Nat.zero_le _, Nat.zero_le _⟩ d_M_root_J_48 ?_
      refine lv_topl (fun v7 e7 => ?_)
      refine lv_lstore_n (lv' := [(2, .long v7), (4, .int (3 : Int32)), (0, .long x0)]) hx hb d_M_root_J_51 rfl hl (by decide) rfl (fun ls hl => ?_)
      refine lv_iinc (v := (4 : Int32)) (lv' := [(4, .int (4 : Int32)), (2, .long v7), (0, .long x0)]) hx hb d_M_root_J_52 hl (k := 1) rfl (by decide) (by decide) rfl (fun ls hl => ?_)
      refine lv_goto (tgt := 30) hx hb d_M_root_J_55 (by decide) ?_
      refine lv_iload hx hb d_M_root_J_30 (lv_at hl 0 rfl) ?_
      refine lv_iconst (v := 5) hx hb d_M_root_J_32 (by decide) ?_
      refine lv_icmp_ge (tgt := 58) hx hb d_M_root_J_33 (by decide) (fun c0 => absurd c0 (by decide)) (fun _ => ?_)
      refine lv_lload_n hx hb d_M_root_J_36 rfl (lv_at hl 1 rfl) ?_
      refine lv_lload_n hx hb d_M_root_J_37 rfl (lv_at hl 2 rfl) ?_
      refine lv_lload_n hx hb d_M_root_J_38 rfl (lv_at hl 1 rfl) ?_
      refine pu_l (As := [.long x0, .long v7]) (rest := [.long v7]) ⟨hx, hb, hml, hown, hts⟩ (c_M_divide_JJ l _ t0 t1 t2 x0 v7) (pr_pre hRT) (gw_call (k := 2) hts tw_624 tw_625 tw_4 tw_626 (by decide +kernel) rfl rfl ⟨Nat.le_of_ble_eq_true rfl, Nat.le_of_ble_eq_true rfl⟩) rfl hl.1 rfl (Nat.le_of_ble_eq_true rfl) ⟨Nat.zero_le _, Nat.zero_le _⟩ d_M_root_J_39 ?_
      refine pu_l (As := [.long v7, .long (f_M_divide_JJ x0 v7)]) (rest := []) ⟨hx, hb, hml, hown, hts⟩ (c_M_add_JJ l _ t0 t1 t2 v7 (f_M_divide_JJ x0 v7)) (pr_pre hRT) (gw_call (k := 2) hts tw_611 tw_612 tw_4 tw_613 (by decide +kernel) rfl rfl ⟨Nat.le_of_ble_eq_true rfl, Nat.le_of_ble_eq_true rfl⟩) rfl hl.1 rfl (Nat.le_of_ble_eq_true rfl) ⟨Nat.zero_le _, Nat.zero_le _⟩ d_M_root_J_42 ?_
      refine lv_ldc2 (v := (4611686018427387904 : Int64)) hx hb hown (hts _ (gm tw_630)) d_M_root_J_45 ?_
      refine pu_l (As := [.long (f_M_add_JJ v7 (f_M_divide_JJ x0 v7)), .long (4611686018427387904 : Int64)]) (rest := []) ⟨hx, hb, hml, hown, hts⟩ (c_M_divide_JJ l _ t0 t1 t2 (f_M_add_JJ v7 (f_M_divide_JJ x0 v7)) (4611686018427387904 : Int64)) (pr_pre hRT) (gw_call (k := 2) hts tw_624 tw_625 tw_4 tw_626 (by decide +kernel) rfl rfl ⟨Nat.le_of_ble_eq_true rfl, Nat.le_of_ble_eq_true rfl⟩) rfl hl.1 rfl (Nat.le_of_ble_eq_true rfl) ⟨Nat.zero_le _, Nat.zero_le _⟩ d_M_root_J_48 ?_
      refine lv_topl (fun v8 e8 => ?_)
      refine lv_lstore_n (lv' := [(2, .long v8), (4, .int (4 : Int32)), (0, .long x0)]) hx hb d_M_root_J_51 rfl hl (by decide) rfl (fun ls hl => ?_)
      refine lv_iinc (v := (5 : Int32)) (lv' := [(4, .int (5 : Int32)), (2, .long v8), (0, .long x0)]) hx hb d_M_root_J_52 hl (k := 1) rfl (by decide) (by decide) rfl (fun ls hl => ?_)
      refine lv_goto (tgt := 30) hx hb d_M_root_J_55 (by decide) ?_
      refine lv_iload hx hb d_M_root_J_30 (lv_at hl 0 rfl) ?_
      refine lv_iconst (v := 5) hx hb d_M_root_J_32 (by decide) ?_
      refine lv_icmp_ge (tgt := 58) hx hb d_M_root_J_33 (by decide) (fun _ => ?_) (fun c0 => absurd c0 (by decide))
      refine lv_lload_n hx hb d_M_root_J_58 rfl (lv_at hl 1 rfl) ?_
      exact pu_lret hx hb hr hlocks d_M_root_J_59 (by have qe3 := e3.symm; have qe4 := e4.symm; have qe5 := e5.symm; have qe6 := e6.symm; have qe7 := e7.symm; have qe8 := e8.symm; subst qe3 qe4 qe5 qe6 qe7 qe8; exact Eq.symm (Eq.trans (if_pos c1) (if_pos c2)))
    · refine lv_lload_n hx hb d_M_root_J_17 rfl (lv_at hl 0 rfl) ?_
      exact pu_lret hx hb hr hlocks d_M_root_J_18 (by exact Eq.symm (Eq.trans (if_pos c1) (if_neg c2)))
