-- ===== MotionLabModel.add(JJI)J
abbrev y_M_add_JJI : MethodName := ⟨"MotionLabModel", "add", "(JJI)J"⟩
abbrev b_M_add_JJI : ByteArray := prog_6_method_15_code
theorem d_M_add_JJI_0 : decode b_M_add_JJI 0 = .ok (.lload_n 0, 1) := by decide +kernel
theorem d_M_add_JJI_1 : decode b_M_add_JJI 1 = .ok (.iload 4, 2) := by decide +kernel
theorem d_M_add_JJI_3 : decode b_M_add_JJI 3 = .ok (.invokestatic 56, 3) := by decide +kernel
theorem d_M_add_JJI_6 : decode b_M_add_JJI 6 = .ok (.ifCond .ne 12, 3) := by decide +kernel
theorem d_M_add_JJI_9 : decode b_M_add_JJI 9 = .ok (.lload_n 2, 1) := by decide +kernel
theorem d_M_add_JJI_10 : decode b_M_add_JJI 10 = .ok (.iload 4, 2) := by decide +kernel
theorem d_M_add_JJI_12 : decode b_M_add_JJI 12 = .ok (.invokestatic 56, 3) := by decide +kernel
theorem d_M_add_JJI_15 : decode b_M_add_JJI 15 = .ok (.ifCond .eq 9, 3) := by decide +kernel
theorem d_M_add_JJI_18 : decode b_M_add_JJI 18 = .ok (.iload 4, 2) := by decide +kernel
theorem d_M_add_JJI_20 : decode b_M_add_JJI 20 = .ok (.invokestatic 60, 3) := by decide +kernel
theorem d_M_add_JJI_23 : decode b_M_add_JJI 23 = .ok (.lreturn, 1) := by decide +kernel
theorem d_M_add_JJI_24 : decode b_M_add_JJI 24 = .ok (.lload_n 0, 1) := by decide +kernel
theorem d_M_add_JJI_25 : decode b_M_add_JJI 25 = .ok (.iload 4, 2) := by decide +kernel
theorem d_M_add_JJI_27 : decode b_M_add_JJI 27 = .ok (.invokestatic 63, 3) := by decide +kernel
theorem d_M_add_JJI_30 : decode b_M_add_JJI 30 = .ok (.ifCond .ne 12, 3) := by decide +kernel
theorem d_M_add_JJI_33 : decode b_M_add_JJI 33 = .ok (.lload_n 2, 1) := by decide +kernel
theorem d_M_add_JJI_34 : decode b_M_add_JJI 34 = .ok (.iload 4, 2) := by decide +kernel
theorem d_M_add_JJI_36 : decode b_M_add_JJI 36 = .ok (.invokestatic 63, 3) := by decide +kernel
theorem d_M_add_JJI_39 : decode b_M_add_JJI 39 = .ok (.ifCond .eq 48, 3) := by decide +kernel
theorem d_M_add_JJI_42 : decode b_M_add_JJI 42 = .ok (.lload_n 0, 1) := by decide +kernel
theorem d_M_add_JJI_43 : decode b_M_add_JJI 43 = .ok (.iload 4, 2) := by decide +kernel
theorem d_M_add_JJI_45 : decode b_M_add_JJI 45 = .ok (.invokestatic 63, 3) := by decide +kernel
theorem d_M_add_JJI_48 : decode b_M_add_JJI 48 = .ok (.ifCond .eq 24, 3) := by decide +kernel
theorem d_M_add_JJI_51 : decode b_M_add_JJI 51 = .ok (.lload_n 2, 1) := by decide +kernel
theorem d_M_add_JJI_52 : decode b_M_add_JJI 52 = .ok (.iload 4, 2) := by decide +kernel
theorem d_M_add_JJI_54 : decode b_M_add_JJI 54 = .ok (.invokestatic 63, 3) := by decide +kernel
theorem d_M_add_JJI_57 : decode b_M_add_JJI 57 = .ok (.ifCond .eq 15, 3) := by decide +kernel
theorem d_M_add_JJI_60 : decode b_M_add_JJI 60 = .ok (.lload_n 0, 1) := by decide +kernel
theorem d_M_add_JJI_61 : decode b_M_add_JJI 61 = .ok (.lload_n 2, 1) := by decide +kernel
theorem d_M_add_JJI_62 : decode b_M_add_JJI 62 = .ok (.lcmp, 1) := by decide +kernel
theorem d_M_add_JJI_63 : decode b_M_add_JJI 63 = .ok (.ifCond .eq 9, 3) := by decide +kernel
theorem d_M_add_JJI_66 : decode b_M_add_JJI 66 = .ok (.iload 4, 2) := by decide +kernel
theorem d_M_add_JJI_68 : decode b_M_add_JJI 68 = .ok (.invokestatic 60, 3) := by decide +kernel
theorem d_M_add_JJI_71 : decode b_M_add_JJI 71 = .ok (.lreturn, 1) := by decide +kernel
theorem d_M_add_JJI_72 : decode b_M_add_JJI 72 = .ok (.lload_n 0, 1) := by decide +kernel
theorem d_M_add_JJI_73 : decode b_M_add_JJI 73 = .ok (.iload 4, 2) := by decide +kernel
theorem d_M_add_JJI_75 : decode b_M_add_JJI 75 = .ok (.invokestatic 63, 3) := by decide +kernel
theorem d_M_add_JJI_78 : decode b_M_add_JJI 78 = .ok (.ifCond .eq 7, 3) := by decide +kernel
theorem d_M_add_JJI_81 : decode b_M_add_JJI 81 = .ok (.lload_n 0, 1) := by decide +kernel
theorem d_M_add_JJI_82 : decode b_M_add_JJI 82 = .ok (.goto 4, 3) := by decide +kernel
theorem d_M_add_JJI_85 : decode b_M_add_JJI 85 = .ok (.lload_n 2, 1) := by decide +kernel
theorem d_M_add_JJI_86 : decode b_M_add_JJI 86 = .ok (.lreturn, 1) := by decide +kernel
theorem d_M_add_JJI_87 : decode b_M_add_JJI 87 = .ok (.lload_n 0, 1) := by decide +kernel
theorem d_M_add_JJI_88 : decode b_M_add_JJI 88 = .ok (.iload 4, 2) := by decide +kernel
theorem d_M_add_JJI_90 : decode b_M_add_JJI 90 = .ok (.invokestatic 66, 3) := by decide +kernel
theorem d_M_add_JJI_93 : decode b_M_add_JJI 93 = .ok (.ifCond .eq 24, 3) := by decide +kernel
theorem d_M_add_JJI_96 : decode b_M_add_JJI 96 = .ok (.lload_n 2, 1) := by decide +kernel
theorem d_M_add_JJI_97 : decode b_M_add_JJI 97 = .ok (.iload 4, 2) := by decide +kernel
theorem d_M_add_JJI_99 : decode b_M_add_JJI 99 = .ok (.invokestatic 66, 3) := by decide +kernel
theorem d_M_add_JJI_102 : decode b_M_add_JJI 102 = .ok (.ifCond .eq 15, 3) := by decide +kernel
theorem d_M_add_JJI_105 : decode b_M_add_JJI 105 = .ok (.lload_n 0, 1) := by decide +kernel
theorem d_M_add_JJI_106 : decode b_M_add_JJI 106 = .ok (.lload_n 2, 1) := by decide +kernel
theorem d_M_add_JJI_107 : decode b_M_add_JJI 107 = .ok (.lcmp, 1) := by decide +kernel
theorem d_M_add_JJI_108 : decode b_M_add_JJI 108 = .ok (.ifCond .ne 7, 3) := by decide +kernel
theorem d_M_add_JJI_111 : decode b_M_add_JJI 111 = .ok (.lload_n 0, 1) := by decide +kernel
theorem d_M_add_JJI_112 : decode b_M_add_JJI 112 = .ok (.goto 4, 3) := by decide +kernel
theorem d_M_add_JJI_115 : decode b_M_add_JJI 115 = .ok (.lconst 0, 1) := by decide +kernel
theorem d_M_add_JJI_116 : decode b_M_add_JJI 116 = .ok (.lreturn, 1) := by decide +kernel
theorem d_M_add_JJI_117 : decode b_M_add_JJI 117 = .ok (.lload_n 0, 1) := by decide +kernel
theorem d_M_add_JJI_118 : decode b_M_add_JJI 118 = .ok (.iload 4, 2) := by decide +kernel
theorem d_M_add_JJI_120 : decode b_M_add_JJI 120 = .ok (.invokestatic 69, 3) := by decide +kernel
theorem d_M_add_JJI_123 : decode b_M_add_JJI 123 = .ok (.lload_n 2, 1) := by decide +kernel
theorem d_M_add_JJI_124 : decode b_M_add_JJI 124 = .ok (.iload 4, 2) := by decide +kernel
theorem d_M_add_JJI_126 : decode b_M_add_JJI 126 = .ok (.invokestatic 69, 3) := by decide +kernel
theorem d_M_add_JJI_129 : decode b_M_add_JJI 129 = .ok (.if_icmp .lt 7, 3) := by decide +kernel
theorem d_M_add_JJI_132 : decode b_M_add_JJI 132 = .ok (.iconst 1, 1) := by decide +kernel
theorem d_M_add_JJI_133 : decode b_M_add_JJI 133 = .ok (.goto 4, 3) := by decide +kernel
theorem d_M_add_JJI_136 : decode b_M_add_JJI 136 = .ok (.iconst 0, 1) := by decide +kernel
theorem d_M_add_JJI_137 : decode b_M_add_JJI 137 = .ok (.istore 5, 2) := by decide +kernel
theorem d_M_add_JJI_139 : decode b_M_add_JJI 139 = .ok (.iload 5, 2) := by decide +kernel
theorem d_M_add_JJI_141 : decode b_M_add_JJI 141 = .ok (.ifCond .eq 7, 3) := by decide +kernel
theorem d_M_add_JJI_144 : decode b_M_add_JJI 144 = .ok (.lload_n 0, 1) := by decide +kernel
theorem d_M_add_JJI_145 : decode b_M_add_JJI 145 = .ok (.goto 4, 3) := by decide +kernel
theorem d_M_add_JJI_148 : decode b_M_add_JJI 148 = .ok (.lload_n 2, 1) := by decide +kernel
theorem d_M_add_JJI_149 : decode b_M_add_JJI 149 = .ok (.lstore 6, 2) := by decide +kernel
theorem d_M_add_JJI_151 : decode b_M_add_JJI 151 = .ok (.iload 5, 2) := by decide +kernel
theorem d_M_add_JJI_153 : decode b_M_add_JJI 153 = .ok (.ifCond .eq 7, 3) := by decide +kernel
theorem d_M_add_JJI_156 : decode b_M_add_JJI 156 = .ok (.lload_n 2, 1) := by decide +kernel
theorem d_M_add_JJI_157 : decode b_M_add_JJI 157 = .ok (.goto 4, 3) := by decide +kernel
theorem d_M_add_JJI_160 : decode b_M_add_JJI 160 = .ok (.lload_n 0, 1) := by decide +kernel
theorem d_M_add_JJI_161 : decode b_M_add_JJI 161 = .ok (.lstore 8, 2) := by decide +kernel
theorem d_M_add_JJI_163 : decode b_M_add_JJI 163 = .ok (.lload 6, 2) := by decide +kernel
theorem d_M_add_JJI_165 : decode b_M_add_JJI 165 = .ok (.iload 4, 2) := by decide +kernel
theorem d_M_add_JJI_167 : decode b_M_add_JJI 167 = .ok (.invokestatic 69, 3) := by decide +kernel
theorem d_M_add_JJI_170 : decode b_M_add_JJI 170 = .ok (.lload 8, 2) := by decide +kernel
theorem d_M_add_JJI_172 : decode b_M_add_JJI 172 = .ok (.iload 4, 2) := by decide +kernel
theorem d_M_add_JJI_174 : decode b_M_add_JJI 174 = .ok (.invokestatic 69, 3) := by decide +kernel
theorem d_M_add_JJI_177 : decode b_M_add_JJI 177 = .ok (.isub, 1) := by decide +kernel
theorem d_M_add_JJI_178 : decode b_M_add_JJI 178 = .ok (.istore 10, 2) := by decide +kernel
theorem d_M_add_JJI_180 : decode b_M_add_JJI 180 = .ok (.lload 6, 2) := by decide +kernel
theorem d_M_add_JJI_182 : decode b_M_add_JJI 182 = .ok (.iload 4, 2) := by decide +kernel
theorem d_M_add_JJI_184 : decode b_M_add_JJI 184 = .ok (.invokestatic 73, 3) := by decide +kernel
theorem d_M_add_JJI_187 : decode b_M_add_JJI 187 = .ok (.lstore 11, 2) := by decide +kernel
theorem d_M_add_JJI_189 : decode b_M_add_JJI 189 = .ok (.lload 8, 2) := by decide +kernel
theorem d_M_add_JJI_191 : decode b_M_add_JJI 191 = .ok (.iload 4, 2) := by decide +kernel
theorem d_M_add_JJI_193 : decode b_M_add_JJI 193 = .ok (.invokestatic 73, 3) := by decide +kernel
theorem d_M_add_JJI_196 : decode b_M_add_JJI 196 = .ok (.lstore 13, 2) := by decide +kernel
theorem d_M_add_JJI_198 : decode b_M_add_JJI 198 = .ok (.lload 8, 2) := by decide +kernel
theorem d_M_add_JJI_200 : decode b_M_add_JJI 200 = .ok (.iload 4, 2) := by decide +kernel
theorem d_M_add_JJI_202 : decode b_M_add_JJI 202 = .ok (.invokestatic 69, 3) := by decide +kernel
theorem d_M_add_JJI_205 : decode b_M_add_JJI 205 = .ok (.istore 15, 2) := by decide +kernel
theorem d_M_add_JJI_207 : decode b_M_add_JJI 207 = .ok (.iconst 0, 1) := by decide +kernel
theorem d_M_add_JJI_208 : decode b_M_add_JJI 208 = .ok (.istore 16, 2) := by decide +kernel
theorem d_M_add_JJI_210 : decode b_M_add_JJI 210 = .ok (.iload 10, 2) := by decide +kernel
theorem d_M_add_JJI_212 : decode b_M_add_JJI 212 = .ok (.bipush 9, 2) := by decide +kernel
theorem d_M_add_JJI_214 : decode b_M_add_JJI 214 = .ok (.if_icmp .gt 13, 3) := by decide +kernel
theorem d_M_add_JJI_217 : decode b_M_add_JJI 217 = .ok (.lload 11, 2) := by decide +kernel
theorem d_M_add_JJI_219 : decode b_M_add_JJI 219 = .ok (.iload 10, 2) := by decide +kernel
theorem d_M_add_JJI_221 : decode b_M_add_JJI 221 = .ok (.lshl, 1) := by decide +kernel
theorem d_M_add_JJI_222 : decode b_M_add_JJI 222 = .ok (.lstore 11, 2) := by decide +kernel
theorem d_M_add_JJI_224 : decode b_M_add_JJI 224 = .ok (.goto 90, 3) := by decide +kernel
theorem d_M_add_JJI_227 : decode b_M_add_JJI 227 = .ok (.lload 11, 2) := by decide +kernel
theorem d_M_add_JJI_229 : decode b_M_add_JJI 229 = .ok (.bipush 9, 2) := by decide +kernel
theorem d_M_add_JJI_231 : decode b_M_add_JJI 231 = .ok (.lshl, 1) := by decide +kernel
theorem d_M_add_JJI_232 : decode b_M_add_JJI 232 = .ok (.lstore 11, 2) := by decide +kernel
theorem d_M_add_JJI_234 : decode b_M_add_JJI 234 = .ok (.lload 6, 2) := by decide +kernel
theorem d_M_add_JJI_236 : decode b_M_add_JJI 236 = .ok (.iload 4, 2) := by decide +kernel
theorem d_M_add_JJI_238 : decode b_M_add_JJI 238 = .ok (.invokestatic 69, 3) := by decide +kernel
theorem d_M_add_JJI_241 : decode b_M_add_JJI 241 = .ok (.bipush 9, 2) := by decide +kernel
theorem d_M_add_JJI_243 : decode b_M_add_JJI 243 = .ok (.isub, 1) := by decide +kernel
theorem d_M_add_JJI_244 : decode b_M_add_JJI 244 = .ok (.istore 15, 2) := by decide +kernel
theorem d_M_add_JJI_246 : decode b_M_add_JJI 246 = .ok (.iload 10, 2) := by decide +kernel
theorem d_M_add_JJI_248 : decode b_M_add_JJI 248 = .ok (.bipush 9, 2) := by decide +kernel
theorem d_M_add_JJI_250 : decode b_M_add_JJI 250 = .ok (.isub, 1) := by decide +kernel
theorem d_M_add_JJI_251 : decode b_M_add_JJI 251 = .ok (.istore 17, 2) := by decide +kernel
theorem d_M_add_JJI_253 : decode b_M_add_JJI 253 = .ok (.iload 17, 2) := by decide +kernel
theorem d_M_add_JJI_255 : decode b_M_add_JJI 255 = .ok (.bipush 62, 2) := by decide +kernel
theorem d_M_add_JJI_257 : decode b_M_add_JJI 257 = .ok (.if_icmp .le 18, 3) := by decide +kernel
theorem d_M_add_JJI_260 : decode b_M_add_JJI 260 = .ok (.lload 13, 2) := by decide +kernel
theorem d_M_add_JJI_262 : decode b_M_add_JJI 262 = .ok (.lconst 0, 1) := by decide +kernel
theorem d_M_add_JJI_263 : decode b_M_add_JJI 263 = .ok (.lcmp, 1) := by decide +kernel
theorem d_M_add_JJI_264 : decode b_M_add_JJI 264 = .ok (.ifCond .eq 7, 3) := by decide +kernel
theorem d_M_add_JJI_267 : decode b_M_add_JJI 267 = .ok (.iconst 1, 1) := by decide +kernel
theorem d_M_add_JJI_268 : decode b_M_add_JJI 268 = .ok (.goto 26, 3) := by decide +kernel
theorem d_M_add_JJI_271 : decode b_M_add_JJI 271 = .ok (.iconst 0, 1) := by decide +kernel
theorem d_M_add_JJI_272 : decode b_M_add_JJI 272 = .ok (.goto 22, 3) := by decide +kernel
theorem d_M_add_JJI_275 : decode b_M_add_JJI 275 = .ok (.lload 13, 2) := by decide +kernel
theorem d_M_add_JJI_277 : decode b_M_add_JJI 277 = .ok (.lconst 1, 1) := by decide +kernel
theorem d_M_add_JJI_278 : decode b_M_add_JJI 278 = .ok (.iload 17, 2) := by decide +kernel
theorem d_M_add_JJI_280 : decode b_M_add_JJI 280 = .ok (.lshl, 1) := by decide +kernel
theorem d_M_add_JJI_281 : decode b_M_add_JJI 281 = .ok (.lconst 1, 1) := by decide +kernel
theorem d_M_add_JJI_282 : decode b_M_add_JJI 282 = .ok (.lsub, 1) := by decide +kernel
theorem d_M_add_JJI_283 : decode b_M_add_JJI 283 = .ok (.land, 1) := by decide +kernel
theorem d_M_add_JJI_284 : decode b_M_add_JJI 284 = .ok (.lconst 0, 1) := by decide +kernel
theorem d_M_add_JJI_285 : decode b_M_add_JJI 285 = .ok (.lcmp, 1) := by decide +kernel
theorem d_M_add_JJI_286 : decode b_M_add_JJI 286 = .ok (.ifCond .eq 7, 3) := by decide +kernel
theorem d_M_add_JJI_289 : decode b_M_add_JJI 289 = .ok (.iconst 1, 1) := by decide +kernel
theorem d_M_add_JJI_290 : decode b_M_add_JJI 290 = .ok (.goto 4, 3) := by decide +kernel
theorem d_M_add_JJI_293 : decode b_M_add_JJI 293 = .ok (.iconst 0, 1) := by decide +kernel
theorem d_M_add_JJI_294 : decode b_M_add_JJI 294 = .ok (.istore 16, 2) := by decide +kernel
theorem d_M_add_JJI_296 : decode b_M_add_JJI 296 = .ok (.iload 17, 2) := by decide +kernel
theorem d_M_add_JJI_298 : decode b_M_add_JJI 298 = .ok (.bipush 62, 2) := by decide +kernel
theorem d_M_add_JJI_300 : decode b_M_add_JJI 300 = .ok (.if_icmp .le 7, 3) := by decide +kernel
theorem d_M_add_JJI_303 : decode b_M_add_JJI 303 = .ok (.lconst 0, 1) := by decide +kernel
theorem d_M_add_JJI_304 : decode b_M_add_JJI 304 = .ok (.goto 8, 3) := by decide +kernel
theorem d_M_add_JJI_307 : decode b_M_add_JJI 307 = .ok (.lload 13, 2) := by decide +kernel
theorem d_M_add_JJI_309 : decode b_M_add_JJI 309 = .ok (.iload 17, 2) := by decide +kernel
theorem d_M_add_JJI_311 : decode b_M_add_JJI 311 = .ok (.lshr, 1) := by decide +kernel
theorem d_M_add_JJI_312 : decode b_M_add_JJI 312 = .ok (.lstore 13, 2) := by decide +kernel
theorem d_M_add_JJI_314 : decode b_M_add_JJI 314 = .ok (.lload 6, 2) := by decide +kernel
theorem d_M_add_JJI_316 : decode b_M_add_JJI 316 = .ok (.iload 4, 2) := by decide +kernel
theorem d_M_add_JJI_318 : decode b_M_add_JJI 318 = .ok (.invokestatic 76, 3) := by decide +kernel
theorem d_M_add_JJI_321 : decode b_M_add_JJI 321 = .ok (.lload 8, 2) := by decide +kernel
theorem d_M_add_JJI_323 : decode b_M_add_JJI 323 = .ok (.iload 4, 2) := by decide +kernel
theorem d_M_add_JJI_325 : decode b_M_add_JJI 325 = .ok (.invokestatic 76, 3) := by decide +kernel
theorem d_M_add_JJI_328 : decode b_M_add_JJI 328 = .ok (.if_icmp .ne 25, 3) := by decide +kernel
theorem d_M_add_JJI_331 : decode b_M_add_JJI 331 = .ok (.lload 6, 2) := by decide +kernel
theorem d_M_add_JJI_333 : decode b_M_add_JJI 333 = .ok (.iload 4, 2) := by decide +kernel
theorem d_M_add_JJI_335 : decode b_M_add_JJI 335 = .ok (.invokestatic 76, 3) := by decide +kernel
theorem d_M_add_JJI_338 : decode b_M_add_JJI 338 = .ok (.lload 11, 2) := by decide +kernel
theorem d_M_add_JJI_340 : decode b_M_add_JJI 340 = .ok (.lload 13, 2) := by decide +kernel
theorem d_M_add_JJI_342 : decode b_M_add_JJI 342 = .ok (.ladd, 1) := by decide +kernel
theorem d_M_add_JJI_343 : decode b_M_add_JJI 343 = .ok (.iload 15, 2) := by decide +kernel
theorem d_M_add_JJI_345 : decode b_M_add_JJI 345 = .ok (.iload 16, 2) := by decide +kernel
theorem d_M_add_JJI_347 : decode b_M_add_JJI 347 = .ok (.iload 4, 2) := by decide +kernel
theorem d_M_add_JJI_349 : decode b_M_add_JJI 349 = .ok (.invokestatic 52, 3) := by decide +kernel
theorem d_M_add_JJI_352 : decode b_M_add_JJI 352 = .ok (.lreturn, 1) := by decide +kernel
theorem d_M_add_JJI_353 : decode b_M_add_JJI 353 = .ok (.lload 11, 2) := by decide +kernel
theorem d_M_add_JJI_355 : decode b_M_add_JJI 355 = .ok (.lload 13, 2) := by decide +kernel
theorem d_M_add_JJI_357 : decode b_M_add_JJI 357 = .ok (.lsub, 1) := by decide +kernel
theorem d_M_add_JJI_358 : decode b_M_add_JJI 358 = .ok (.iload 16, 2) := by decide +kernel
theorem d_M_add_JJI_360 : decode b_M_add_JJI 360 = .ok (.ifCond .eq 7, 3) := by decide +kernel
theorem d_M_add_JJI_363 : decode b_M_add_JJI 363 = .ok (.iconst 1, 1) := by decide +kernel
theorem d_M_add_JJI_364 : decode b_M_add_JJI 364 = .ok (.goto 4, 3) := by decide +kernel
theorem d_M_add_JJI_367 : decode b_M_add_JJI 367 = .ok (.iconst 0, 1) := by decide +kernel
theorem d_M_add_JJI_368 : decode b_M_add_JJI 368 = .ok (.i2l, 1) := by decide +kernel
theorem d_M_add_JJI_369 : decode b_M_add_JJI 369 = .ok (.lsub, 1) := by decide +kernel
theorem d_M_add_JJI_370 : decode b_M_add_JJI 370 = .ok (.lstore 17, 2) := by decide +kernel
theorem d_M_add_JJI_372 : decode b_M_add_JJI 372 = .ok (.lload 17, 2) := by decide +kernel
theorem d_M_add_JJI_374 : decode b_M_add_JJI 374 = .ok (.lconst 0, 1) := by decide +kernel
theorem d_M_add_JJI_375 : decode b_M_add_JJI 375 = .ok (.lcmp, 1) := by decide +kernel
theorem d_M_add_JJI_376 : decode b_M_add_JJI 376 = .ok (.ifCond .ne 10, 3) := by decide +kernel
theorem d_M_add_JJI_379 : decode b_M_add_JJI 379 = .ok (.iload 16, 2) := by decide +kernel
theorem d_M_add_JJI_381 : decode b_M_add_JJI 381 = .ok (.ifCond .ne 5, 3) := by decide +kernel
theorem d_M_add_JJI_384 : decode b_M_add_JJI 384 = .ok (.lconst 0, 1) := by decide +kernel
theorem d_M_add_JJI_385 : decode b_M_add_JJI 385 = .ok (.lreturn, 1) := by decide +kernel
theorem d_M_add_JJI_386 : decode b_M_add_JJI 386 = .ok (.lload 17, 2) := by decide +kernel
theorem d_M_add_JJI_388 : decode b_M_add_JJI 388 = .ok (.lconst 0, 1) := by decide +kernel
theorem d_M_add_JJI_389 : decode b_M_add_JJI 389 = .ok (.lcmp, 1) := by decide +kernel
theorem d_M_add_JJI_390 : decode b_M_add_JJI 390 = .ok (.ifCond .ge 24, 3) := by decide +kernel
theorem d_M_add_JJI_393 : decode b_M_add_JJI 393 = .ok (.lload 8, 2) := by decide +kernel
theorem d_M_add_JJI_395 : decode b_M_add_JJI 395 = .ok (.iload 4, 2) := by decide +kernel
theorem d_M_add_JJI_397 : decode b_M_add_JJI 397 = .ok (.invokestatic 76, 3) := by decide +kernel
theorem d_M_add_JJI_400 : decode b_M_add_JJI 400 = .ok (.lload 17, 2) := by decide +kernel
theorem d_M_add_JJI_402 : decode b_M_add_JJI 402 = .ok (.lneg, 1) := by decide +kernel
theorem d_M_add_JJI_403 : decode b_M_add_JJI 403 = .ok (.iload 15, 2) := by decide +kernel
theorem d_M_add_JJI_405 : decode b_M_add_JJI 405 = .ok (.iconst 0, 1) := by decide +kernel
theorem d_M_add_JJI_406 : decode b_M_add_JJI 406 = .ok (.iload 4, 2) := by decide +kernel
theorem d_M_add_JJI_408 : decode b_M_add_JJI 408 = .ok (.invokestatic 52, 3) := by decide +kernel
theorem d_M_add_JJI_411 : decode b_M_add_JJI 411 = .ok (.goto 21, 3) := by decide +kernel
theorem d_M_add_JJI_414 : decode b_M_add_JJI 414 = .ok (.lload 6, 2) := by decide +kernel
theorem d_M_add_JJI_416 : decode b_M_add_JJI 416 = .ok (.iload 4, 2) := by decide +kernel
theorem d_M_add_JJI_418 : decode b_M_add_JJI 418 = .ok (.invokestatic 76, 3) := by decide +kernel
theorem d_M_add_JJI_421 : decode b_M_add_JJI 421 = .ok (.lload 17, 2) := by decide +kernel
theorem d_M_add_JJI_423 : decode b_M_add_JJI 423 = .ok (.iload 15, 2) := by decide +kernel
theorem d_M_add_JJI_425 : decode b_M_add_JJI 425 = .ok (.iload 16, 2) := by decide +kernel
theorem d_M_add_JJI_427 : decode b_M_add_JJI 427 = .ok (.iload 4, 2) := by decide +kernel
theorem d_M_add_JJI_429 : decode b_M_add_JJI 429 = .ok (.invokestatic 52, 3) := by decide +kernel
theorem d_M_add_JJI_432 : decode b_M_add_JJI 432 = .ok (.lreturn, 1) := by decide +kernel
def f_M_add_JJI_386 (x4 : Int32) (x6 : Int64) (x8 : Int64) (x15 : Int32) (x16 : Int32) (x17 : Int64) : Int64 :=
  if 0 ≤ (lg_cmp x17 (0 : Int64)) then
    f_M_rounded_ZJIZI (f_M_minus_JI x6 x4) x17 x15 x16 x4
  else
    f_M_rounded_ZJIZI (f_M_minus_JI x8 x4) (-x17) x15 (0 : Int32) x4
set_option maxHeartbeats 4000000 in
set_option maxRecDepth 100000 in
theorem k_M_add_JJI_386 {p : Program} {l : Launch} {e : Env} {s : State} {m : MethodId} {args : Array Value} {below : List Frame} {meth : Method} {c : Code} (C0 : pu_C p s m args meth c b_M_add_JJI 19 "MotionLabModel" (some .long) (gw y_M_add_JJI b_M_add_JJI 19 (some .long))) {t0 t1 t2 : Nat} (hRT : RTH t0 t1 t2 s s.heap) (x4 : Int32) (x6 : Int64) (x8 : Int64) (x15 : Int32) (x16 : Int32) (x17 : Int64) (hk_x4 : vp_in x4 2) (ls : Array Slot) (hl : lv_has ls 19 [(4, .int x4), (6, .long x6), (8, .long x8), (15, .int x15), (16, .int x16), (17, .long x17)]) {w : Int64} (hw : w = f_M_add_JJI_386 x4 x6 x8 x15 x16 x17) : W p l e (headSpec (gw y_M_add_JJI b_M_add_JJI 19 (some .long)) ({ frames := 3, cells := 0, slots := 0, locals := 77 } : Room)).room s m args below meth c s.heap [] 0 0 (pu_Ql w below args s) (F0 m 386 ls []) := by
  obtain ⟨hx, hb, hml, hown, hts, hr, hlocks⟩ := id C0
  obtain ⟨hT0, hT1, hT2⟩ := id hRT
  refine lv_lload hx hb d_M_add_JJI_386 (lv_at hl 5 rfl) ?_
  refine lv_lconst (v := (0 : Int64)) hx hb d_M_add_JJI_388 (by decide) ?_
  refine W.lcmp hx hb d_M_add_JJI_389 ?_
  refine lv_if_ge (tgt := 414) hx hb d_M_add_JJI_390 (by decide) (fun c1 => ?_) (fun c1 => ?_)
  · refine lv_lload hx hb d_M_add_JJI_414 (lv_at hl 1 rfl) ?_
    refine lv_iload hx hb d_M_add_JJI_416 (lv_at hl 0 rfl) ?_
    refine pu_i (As := [.long x6, .int x4]) (rest := []) ⟨hx, hb, hml, hown, hts⟩ (c_M_minus_JI l _ x6 x4) pu_pre (gw_call (k := 2) hts tw_519 tw_520 tw_4 tw_521 (by decide +kernel) rfl rfl ⟨Nat.le_of_ble_eq_true rfl, Nat.le_of_ble_eq_true rfl⟩) rfl hl.1 rfl (Nat.le_of_ble_eq_true rfl) ⟨Nat.zero_le _, Nat.zero_le _⟩ d_M_add_JJI_418 ?_
    refine lv_lload hx hb d_M_add_JJI_421 (lv_at hl 5 rfl) ?_
    refine lv_iload hx hb d_M_add_JJI_423 (lv_at hl 3 rfl) ?_
    refine lv_iload hx hb d_M_add_JJI_425 (lv_at hl 4 rfl) ?_
    refine lv_iload hx hb d_M_add_JJI_427 (lv_at hl 0 rfl) ?_
    refine pu_l (As := [.int (f_M_minus_JI x6 x4), .long x17, .int x15, .int x16, .int x4]) (rest := []) ⟨hx, hb, hml, hown, hts⟩ (c_M_rounded_ZJIZI l _ t0 t1 t2 (f_M_minus_JI x6 x4) x17 x15 x16 x4 hk_x4) (pr_pre hRT) (gw_call (k := 5) hts tw_539 tw_540 tw_4 tw_541 (by decide +kernel) rfl rfl ⟨Nat.le_of_ble_eq_true rfl, Nat.le_of_ble_eq_true rfl⟩) rfl hl.1 rfl (Nat.le_of_ble_eq_true rfl) ⟨Nat.zero_le _, Nat.zero_le _⟩ d_M_add_JJI_429 ?_
    exact pu_lret hx hb hr hlocks d_M_add_JJI_432 (by exact Eq.symm (hw.trans (if_pos c1)))
  · refine lv_lload hx hb d_M_add_JJI_393 (lv_at hl 2 rfl) ?_
    refine lv_iload hx hb d_M_add_JJI_395 (lv_at hl 0 rfl) ?_
    refine pu_i (As := [.long x8, .int x4]) (rest := []) ⟨hx, hb, hml, hown, hts⟩ (c_M_minus_JI l _ x8 x4) pu_pre (gw_call (k := 2) hts tw_519 tw_520 tw_4 tw_521 (by decide +kernel) rfl rfl ⟨Nat.le_of_ble_eq_true rfl, Nat.le_of_ble_eq_true rfl⟩) rfl hl.1 rfl (Nat.le_of_ble_eq_true rfl) ⟨Nat.zero_le _, Nat.zero_le _⟩ d_M_add_JJI_397 ?_
    refine lv_lload hx hb d_M_add_JJI_400 (lv_at hl 5 rfl) ?_
    refine lv_lneg hx hb d_M_add_JJI_402 ?_
    refine lv_iload hx hb d_M_add_JJI_403 (lv_at hl 3 rfl) ?_
    refine lv_iconst (v := 0) hx hb d_M_add_JJI_405 (by decide) ?_
    refine lv_iload hx hb d_M_add_JJI_406 (lv_at hl 0 rfl) ?_
    refine pu_l (As := [.int (f_M_minus_JI x8 x4), .long (-x17), .int x15, .int (0 : Int32), .int x4]) (rest := []) ⟨hx, hb, hml, hown, hts⟩ (c_M_rounded_ZJIZI l _ t0 t1 t2 (f_M_minus_JI x8 x4) (-x17) x15 (0 : Int32) x4 hk_x4) (pr_pre hRT) (gw_call (k := 5) hts tw_539 tw_540 tw_4 tw_541 (by decide +kernel) rfl rfl ⟨Nat.le_of_ble_eq_true rfl, Nat.le_of_ble_eq_true rfl⟩) rfl hl.1 rfl (Nat.le_of_ble_eq_true rfl) ⟨Nat.zero_le _, Nat.zero_le _⟩ d_M_add_JJI_408 ?_
    refine lv_goto (tgt := 432) hx hb d_M_add_JJI_411 (by decide) ?_
    exact pu_lret hx hb hr hlocks d_M_add_JJI_432 (by exact Eq.symm (hw.trans (if_neg c1)))
def f_M_add_JJI_368 (x4 : Int32) (x6 : Int64) (x8 : Int64) (x15 : Int32) (x16 : Int32) (s0 : Int64) (s1 : Int32) : Int64 :=
  let v1 : Int64 := s0 - (s1.toInt64)
  if (lg_cmp v1 (0 : Int64)) = 0 then
    if x16 = 0 then
      (0 : Int64)
    else
      f_M_add_JJI_386 x4 x6 x8 x15 x16 v1
  else
    f_M_add_JJI_386 x4 x6 x8 x15 x16 v1
set_option maxHeartbeats 4000000 in
set_option maxRecDepth 100000 in
theorem k_M_add_JJI_368 {p : Program} {l : Launch} {e : Env} {s : State} {m : MethodId} {args : Array Value} {below : List Frame} {meth : Method} {c : Code} (C0 : pu_C p s m args meth c b_M_add_JJI 19 "MotionLabModel" (some .long) (gw y_M_add_JJI b_M_add_JJI 19 (some .long))) {t0 t1 t2 : Nat} (hRT : RTH t0 t1 t2 s s.heap) (x4 : Int32) (x6 : Int64) (x8 : Int64) (x15 : Int32) (x16 : Int32) (s0 : Int64) (s1 : Int32) (hk_x4 : vp_in x4 2) (ls : Array Slot) (hl : lv_has ls 19 [(4, .int x4), (6, .long x6), (8, .long x8), (15, .int x15), (16, .int x16)]) {w : Int64} (hw : w = f_M_add_JJI_368 x4 x6 x8 x15 x16 s0 s1) : W p l e (headSpec (gw y_M_add_JJI b_M_add_JJI 19 (some .long)) ({ frames := 3, cells := 0, slots := 0, locals := 77 } : Room)).room s m args below meth c s.heap [] 0 0 (pu_Ql w below args s) (F0 m 368 ls [.int s1, .long s0]) := by
  obtain ⟨hx, hb, hml, hown, hts, hr, hlocks⟩ := id C0
  obtain ⟨hT0, hT1, hT2⟩ := id hRT
  refine lv_i2l hx hb d_M_add_JJI_368 rfl ?_
  refine lv_lsub hx hb d_M_add_JJI_369 ?_
  refine lv_topl (fun v1 e1 => ?_)
  refine lv_lstore (lv' := [(17, .long v1), (4, .int x4), (6, .long x6), (8, .long x8), (15, .int x15), (16, .int x16)]) hx hb d_M_add_JJI_370 hl (by decide) rfl (fun ls hl => ?_)
  refine lv_lload hx hb d_M_add_JJI_372 (lv_at hl 0 rfl) ?_
  refine lv_lconst (v := (0 : Int64)) hx hb d_M_add_JJI_374 (by decide) ?_
  refine W.lcmp hx hb d_M_add_JJI_375 ?_
  refine lv_if_ne (tgt := 386) hx hb d_M_add_JJI_376 (by decide) (fun c2 => ?_) (fun c2 => ?_)
  · exact k_M_add_JJI_386 C0 hRT x4 x6 x8 x15 x16 v1 hk_x4 ls (lv_sub hl [1, 2, 3, 4, 5, 0] rfl) (by have qe1 := e1.symm; subst qe1; exact (hw.trans (if_neg c2)))
  · refine lv_iload hx hb d_M_add_JJI_379 (lv_at hl 5 rfl) ?_
    refine lv_if_ne (tgt := 386) hx hb d_M_add_JJI_381 (by decide) (fun c3 => ?_) (fun c3 => ?_)
    · exact k_M_add_JJI_386 C0 hRT x4 x6 x8 x15 x16 v1 hk_x4 ls (lv_sub hl [1, 2, 3, 4, 5, 0] rfl) (by have qe1 := e1.symm; subst qe1; exact (hw.trans (Eq.trans (if_pos c2) (if_neg c3))))
    · refine lv_lconst (v := (0 : Int64)) hx hb d_M_add_JJI_384 (by decide) ?_
      exact pu_lret hx hb hr hlocks d_M_add_JJI_385 (by have qe1 := e1.symm; subst qe1; exact Eq.symm (hw.trans (Eq.trans (if_pos c2) (if_pos c3))))
def f_M_add_JJI_314 (x4 : Int32) (x6 : Int64) (x8 : Int64) (x11 : Int64) (x13 : Int64) (x15 : Int32) (x16 : Int32) : Int64 :=
  if (f_M_minus_JI x6 x4) = (f_M_minus_JI x8 x4) then
    f_M_rounded_ZJIZI (f_M_minus_JI x6 x4) (x11 + x13) x15 x16 x4
  else
    if x16 = 0 then
      f_M_add_JJI_368 x4 x6 x8 x15 x16 (x11 - x13) (0 : Int32)
    else
      f_M_add_JJI_368 x4 x6 x8 x15 x16 (x11 - x13) (1 : Int32)
set_option maxHeartbeats 4000000 in
set_option maxRecDepth 100000 in
theorem k_M_add_JJI_314 {p : Program} {l : Launch} {e : Env} {s : State} {m : MethodId} {args : Array Value} {below : List Frame} {meth : Method} {c : Code} (C0 : pu_C p s m args meth c b_M_add_JJI 19 "MotionLabModel" (some .long) (gw y_M_add_JJI b_M_add_JJI 19 (some .long))) {t0 t1 t2 : Nat} (hRT : RTH t0 t1 t2 s s.heap) (x4 : Int32) (x6 : Int64) (x8 : Int64) (x11 : Int64) (x13 : Int64) (x15 : Int32) (x16 : Int32) (hk_x4 : vp_in x4 2) (ls : Array Slot) (hl : lv_has ls 19 [(4, .int x4), (6, .long x6), (8, .long x8), (11, .long x11), (13, .long x13), (15, .int x15), (16, .int x16)]) {w : Int64} (hw : w = f_M_add_JJI_314 x4 x6 x8 x11 x13 x15 x16) : W p l e (headSpec (gw y_M_add_JJI b_M_add_JJI 19 (some .long)) ({ frames := 3, cells := 0, slots := 0, locals := 77 } : Room)).room s m args below meth c s.heap [] 0 0 (pu_Ql w below args s) (F0 m 314 ls []) := by
  obtain ⟨hx, hb, hml, hown, hts, hr, hlocks⟩ := id C0
  obtain ⟨hT0, hT1, hT2⟩ := id hRT
  refine lv_lload hx hb d_M_add_JJI_314 (lv_at hl 1 rfl) ?_
  refine lv_iload hx hb d_M_add_JJI_316 (lv_at hl 0 rfl) ?_
  refine pu_i (As := [.long x6, .int x4]) (rest := []) ⟨hx, hb, hml, hown, hts⟩ (c_M_minus_JI l _ x6 x4) pu_pre (gw_call (k := 2) hts tw_519 tw_520 tw_4 tw_521 (by decide +kernel) rfl rfl ⟨Nat.le_of_ble_eq_true rfl, Nat.le_of_ble_eq_true rfl⟩) rfl hl.1 rfl (Nat.le_of_ble_eq_true rfl) ⟨Nat.zero_le _, Nat.zero_le _⟩ d_M_add_JJI_318 ?_
  refine lv_lload hx hb d_M_add_JJI_321 (lv_at hl 2 rfl) ?_
  refine lv_iload hx hb d_M_add_JJI_323 (lv_at hl 0 rfl) ?_
  refine pu_i (As := [.long x8, .int x4]) (rest := [.int (f_M_minus_JI x6 x4)]) ⟨hx, hb, hml, hown, hts⟩ (c_M_minus_JI l _ x8 x4) pu_pre (gw_call (k := 2) hts tw_519 tw_520 tw_4 tw_521 (by decide +kernel) rfl rfl ⟨Nat.le_of_ble_eq_true rfl, Nat.le_of_ble_eq_true rfl⟩) rfl hl.1 rfl (Nat.le_of_ble_eq_true rfl) ⟨Nat.zero_le _, Nat.zero_le _⟩ d_M_add_JJI_325 ?_
  refine lv_icmp_ne (tgt := 353) hx hb d_M_add_JJI_328 (by decide) (fun c1 => ?_) (fun c1 => ?_)
  · refine lv_lload hx hb d_M_add_JJI_353 (lv_at hl 3 rfl) ?_
    refine lv_lload hx hb d_M_add_JJI_355 (lv_at hl 4 rfl) ?_
    refine lv_lsub hx hb d_M_add_JJI_357 ?_
    refine lv_iload hx hb d_M_add_JJI_358 (lv_at hl 6 rfl) ?_
    refine lv_if_eq (tgt := 367) hx hb d_M_add_JJI_360 (by decide) (fun c2 => ?_) (fun c2 => ?_)
    · refine lv_iconst (v := 0) hx hb d_M_add_JJI_367 (by decide) ?_
      exact k_M_add_JJI_368 C0 hRT x4 x6 x8 x15 x16 (x11 - x13) (0 : Int32) hk_x4 ls (lv_sub hl [0, 1, 2, 5, 6] rfl) (by exact (hw.trans (Eq.trans (if_neg c1) (if_pos c2))))
    · refine lv_iconst (v := 1) hx hb d_M_add_JJI_363 (by decide) ?_
      refine lv_goto (tgt := 368) hx hb d_M_add_JJI_364 (by decide) ?_
      exact k_M_add_JJI_368 C0 hRT x4 x6 x8 x15 x16 (x11 - x13) (1 : Int32) hk_x4 ls (lv_sub hl [0, 1, 2, 5, 6] rfl) (by exact (hw.trans (Eq.trans (if_neg c1) (if_neg c2))))
  · refine lv_lload hx hb d_M_add_JJI_331 (lv_at hl 1 rfl) ?_
    refine lv_iload hx hb d_M_add_JJI_333 (lv_at hl 0 rfl) ?_
    refine pu_i (As := [.long x6, .int x4]) (rest := []) ⟨hx, hb, hml, hown, hts⟩ (c_M_minus_JI l _ x6 x4) pu_pre (gw_call (k := 2) hts tw_519 tw_520 tw_4 tw_521 (by decide +kernel) rfl rfl ⟨Nat.le_of_ble_eq_true rfl, Nat.le_of_ble_eq_true rfl⟩) rfl hl.1 rfl (Nat.le_of_ble_eq_true rfl) ⟨Nat.zero_le _, Nat.zero_le _⟩ d_M_add_JJI_335 ?_
    refine lv_lload hx hb d_M_add_JJI_338 (lv_at hl 3 rfl) ?_
    refine lv_lload hx hb d_M_add_JJI_340 (lv_at hl 4 rfl) ?_
    refine lv_ladd hx hb d_M_add_JJI_342 ?_
    refine lv_iload hx hb d_M_add_JJI_343 (lv_at hl 5 rfl) ?_
    refine lv_iload hx hb d_M_add_JJI_345 (lv_at hl 6 rfl) ?_
    refine lv_iload hx hb d_M_add_JJI_347 (lv_at hl 0 rfl) ?_
    refine pu_l (As := [.int (f_M_minus_JI x6 x4), .long (x11 + x13), .int x15, .int x16, .int x4]) (rest := []) ⟨hx, hb, hml, hown, hts⟩ (c_M_rounded_ZJIZI l _ t0 t1 t2 (f_M_minus_JI x6 x4) (x11 + x13) x15 x16 x4 hk_x4) (pr_pre hRT) (gw_call (k := 5) hts tw_539 tw_540 tw_4 tw_541 (by decide +kernel) rfl rfl ⟨Nat.le_of_ble_eq_true rfl, Nat.le_of_ble_eq_true rfl⟩) rfl hl.1 rfl (Nat.le_of_ble_eq_true rfl) ⟨Nat.zero_le _, Nat.zero_le _⟩ d_M_add_JJI_349 ?_
    exact pu_lret hx hb hr hlocks d_M_add_JJI_352 (by exact Eq.symm (hw.trans (if_pos c1)))
def f_M_add_JJI_312 (x4 : Int32) (x6 : Int64) (x8 : Int64) (x11 : Int64) (x15 : Int32) (x16 : Int32) (s0 : Int64) : Int64 :=
  f_M_add_JJI_314 x4 x6 x8 x11 s0 x15 x16
set_option maxHeartbeats 4000000 in
set_option maxRecDepth 100000 in
theorem k_M_add_JJI_312 {p : Program} {l : Launch} {e : Env} {s : State} {m : MethodId} {args : Array Value} {below : List Frame} {meth : Method} {c : Code} (C0 : pu_C p s m args meth c b_M_add_JJI 19 "MotionLabModel" (some .long) (gw y_M_add_JJI b_M_add_JJI 19 (some .long))) {t0 t1 t2 : Nat} (hRT : RTH t0 t1 t2 s s.heap) (x4 : Int32) (x6 : Int64) (x8 : Int64) (x11 : Int64) (x15 : Int32) (x16 : Int32) (s0 : Int64) (hk_x4 : vp_in x4 2) (ls : Array Slot) (hl : lv_has ls 19 [(4, .int x4), (6, .long x6), (8, .long x8), (11, .long x11), (15, .int x15), (16, .int x16)]) {w : Int64} (hw : w = f_M_add_JJI_312 x4 x6 x8 x11 x15 x16 s0) : W p l e (headSpec (gw y_M_add_JJI b_M_add_JJI 19 (some .long)) ({ frames := 3, cells := 0, slots := 0, locals := 77 } : Room)).room s m args below meth c s.heap [] 0 0 (pu_Ql w below args s) (F0 m 312 ls [.long s0]) := by
  obtain ⟨hx, hb, hml, hown, hts, hr, hlocks⟩ := id C0
  obtain ⟨hT0, hT1, hT2⟩ := id hRT
  refine lv_lstore (lv' := [(13, .long s0), (4, .int x4), (6, .long x6), (8, .long x8), (11, .long x11), (15, .int x15), (16, .int x16)]) hx hb d_M_add_JJI_312 hl (by decide) rfl (fun ls hl => ?_)
  exact k_M_add_JJI_314 C0 hRT x4 x6 x8 x11 s0 x15 x16 hk_x4 ls (lv_sub hl [1, 2, 3, 4, 0, 5, 6] rfl) (by exact (hw.trans rfl))
def f_M_add_JJI_294 (x4 : Int32) (x6 : Int64) (x8 : Int64) (x11 : Int64) (x13 : Int64) (x15 : Int32) (x17 : Int32) (s0 : Int32) : Int64 :=
  if x17 ≤ (62 : Int32) then
    f_M_add_JJI_312 x4 x6 x8 x11 x15 s0 (j_shr x13 x17)
  else
    f_M_add_JJI_312 x4 x6 x8 x11 x15 s0 (0 : Int64)
set_option maxHeartbeats 4000000 in
set_option maxRecDepth 100000 in
theorem k_M_add_JJI_294 {p : Program} {l : Launch} {e : Env} {s : State} {m : MethodId} {args : Array Value} {below : List Frame} {meth : Method} {c : Code} (C0 : pu_C p s m args meth c b_M_add_JJI 19 "MotionLabModel" (some .long) (gw y_M_add_JJI b_M_add_JJI 19 (some .long))) {t0 t1 t2 : Nat} (hRT : RTH t0 t1 t2 s s.heap) (x4 : Int32) (x6 : Int64) (x8 : Int64) (x11 : Int64) (x13 : Int64) (x15 : Int32) (x17 : Int32) (s0 : Int32) (hk_x4 : vp_in x4 2) (ls : Array Slot) (hl : lv_has ls 19 [(4, .int x4), (6, .long x6), (8, .long x8), (11, .long x11), (13, .long x13), (15, .int x15), (17, .int x17)]) {w : Int64} (hw : w = f_M_add_JJI_294 x4 x6 x8 x11 x13 x15 x17 s0) : W p l e (headSpec (gw y_M_add_JJI b_M_add_JJI 19 (some .long)) ({ frames := 3, cells := 0, slots := 0, locals := 77 } : Room)).room s m args below meth c s.heap [] 0 0 (pu_Ql w below args s) (F0 m 294 ls [.int s0]) := by
  obtain ⟨hx, hb, hml, hown, hts, hr, hlocks⟩ := id C0
  obtain ⟨hT0, hT1, hT2⟩ := id hRT
  refine lv_istore (lv' := [(16, .int s0), (4, .int x4), (6, .long x6), (8, .long x8), (11, .long x11), (13, .long x13), (15, .int x15), (17, .int x17)]) hx hb d_M_add_JJI_294 hl (by decide) rfl (fun ls hl => ?_)
  refine lv_iload hx hb d_M_add_JJI_296 (lv_at hl 7 rfl) ?_
  refine lv_bipush (v := (62 : Int32)) hx hb d_M_add_JJI_298 (by decide) ?_
  refine lv_icmp_le (tgt := 307) hx hb d_M_add_JJI_300 (by decide) (fun c1 => ?_) (fun c1 => ?_)
  · refine lv_lload hx hb d_M_add_JJI_307 (lv_at hl 5 rfl) ?_
    refine lv_iload hx hb d_M_add_JJI_309 (lv_at hl 7 rfl) ?_
    refine lv_lshr (v := j_shr x13 x17) hx hb d_M_add_JJI_311 rfl ?_
    exact k_M_add_JJI_312 C0 hRT x4 x6 x8 x11 x15 s0 (j_shr x13 x17) hk_x4 ls (lv_sub hl [1, 2, 3, 4, 6, 0] rfl) (by exact (hw.trans (if_pos c1)))
  · refine lv_lconst (v := (0 : Int64)) hx hb d_M_add_JJI_303 (by decide) ?_
    refine lv_goto (tgt := 312) hx hb d_M_add_JJI_304 (by decide) ?_
    exact k_M_add_JJI_312 C0 hRT x4 x6 x8 x11 x15 s0 (0 : Int64) hk_x4 ls (lv_sub hl [1, 2, 3, 4, 6, 0] rfl) (by exact (hw.trans (if_neg c1)))
def f_M_add_JJI_161 (x4 : Int32) (x6 : Int64) (s0 : Int64) : Int64 :=
  let v1 : Int32 := (f_M_power_JI x6 x4) - (f_M_power_JI s0 x4)
  let v2 : Int64 := f_M_whole_JI x6 x4
  let v3 : Int64 := f_M_whole_JI s0 x4
  let v4 : Int32 := f_M_power_JI s0 x4
  if (9 : Int32) < v1 then
    let v6 : Int64 := j_shl v2 (9 : Int32)
    let v7 : Int32 := (f_M_power_JI x6 x4) - (9 : Int32)
    let v8 : Int32 := v1 - (9 : Int32)
    if v8 ≤ (62 : Int32) then
      if (lg_cmp (v3 &&& ((j_shl (1 : Int64) v8) - (1 : Int64))) (0 : Int64)) = 0 then
        f_M_add_JJI_294 x4 x6 s0 v6 v3 v7 v8 (0 : Int32)
      else
        f_M_add_JJI_294 x4 x6 s0 v6 v3 v7 v8 (1 : Int32)
    else
      if (lg_cmp v3 (0 : Int64)) = 0 then
        f_M_add_JJI_294 x4 x6 s0 v6 v3 v7 v8 (0 : Int32)
      else
        f_M_add_JJI_294 x4 x6 s0 v6 v3 v7 v8 (1 : Int32)
  else
    let v12 : Int64 := j_shl v2 v1
    f_M_add_JJI_314 x4 x6 s0 v12 v3 v4 (0 : Int32)
set_option maxHeartbeats 4000000 in
set_option maxRecDepth 100000 in
theorem k_M_add_JJI_161 {p : Program} {l : Launch} {e : Env} {s : State} {m : MethodId} {args : Array Value} {below : List Frame} {meth : Method} {c : Code} (C0 : pu_C p s m args meth c b_M_add_JJI 19 "MotionLabModel" (some .long) (gw y_M_add_JJI b_M_add_JJI 19 (some .long))) {t0 t1 t2 : Nat} (hRT : RTH t0 t1 t2 s s.heap) (x4 : Int32) (x6 : Int64) (s0 : Int64) (hk_x4 : vp_in x4 2) (ls : Array Slot) (hl : lv_has ls 19 [(4, .int x4), (6, .long x6)]) {w : Int64} (hw : w = f_M_add_JJI_161 x4 x6 s0) : W p l e (headSpec (gw y_M_add_JJI b_M_add_JJI 19 (some .long)) ({ frames := 3, cells := 0, slots := 0, locals := 77 } : Room)).room s m args below meth c s.heap [] 0 0 (pu_Ql w below args s) (F0 m 161 ls [.long s0]) := by
  obtain ⟨hx, hb, hml, hown, hts, hr, hlocks⟩ := id C0
  obtain ⟨hT0, hT1, hT2⟩ := id hRT
  refine lv_lstore (lv' := [(8, .long s0), (4, .int x4), (6, .long x6)]) hx hb d_M_add_JJI_161 hl (by decide) rfl (fun ls hl => ?_)
  refine lv_lload hx hb d_M_add_JJI_163 (lv_at hl 2 rfl) ?_
  refine lv_iload hx hb d_M_add_JJI_165 (lv_at hl 1 rfl) ?_
  refine pu_i (As := [.long x6, .int x4]) (rest := []) ⟨hx, hb, hml, hown, hts⟩ (c_M_power_JI l _ t0 t1 t2 x6 x4 hk_x4) (pr_pre hRT) (gw_call (k := 2) hts tw_530 tw_531 tw_4 tw_532 (by decide +kernel) rfl rfl ⟨Nat.le_of_ble_eq_true rfl, Nat.le_of_ble_eq_true rfl⟩) rfl hl.1 rfl (Nat.le_of_ble_eq_true rfl) ⟨Nat.zero_le _, Nat.zero_le _⟩ d_M_add_JJI_167 ?_
  refine lv_lload hx hb d_M_add_JJI_170 (lv_at hl 0 rfl) ?_
  refine lv_iload hx hb d_M_add_JJI_172 (lv_at hl 1 rfl) ?_
  refine pu_i (As := [.long s0, .int x4]) (rest := [.int (f_M_power_JI x6 x4)]) ⟨hx, hb, hml, hown, hts⟩ (c_M_power_JI l _ t0 t1 t2 s0 x4 hk_x4) (pr_pre hRT) (gw_call (k := 2) hts tw_530 tw_531 tw_4 tw_532 (by decide +kernel) rfl rfl ⟨Nat.le_of_ble_eq_true rfl, Nat.le_of_ble_eq_true rfl⟩) rfl hl.1 rfl (Nat.le_of_ble_eq_true rfl) ⟨Nat.zero_le _, Nat.zero_le _⟩ d_M_add_JJI_174 ?_
  refine lv_isub hx hb d_M_add_JJI_177 ?_
  refine lv_topi (fun v1 e1 => ?_)
  refine lv_istore (lv' := [(10, .int v1), (8, .long s0), (4, .int x4), (6, .long x6)]) hx hb d_M_add_JJI_178 hl (by decide) rfl (fun ls hl => ?_)
  refine lv_lload hx hb d_M_add_JJI_180 (lv_at hl 3 rfl) ?_
  refine lv_iload hx hb d_M_add_JJI_182 (lv_at hl 2 rfl) ?_
  refine pu_l (As := [.long x6, .int x4]) (rest := []) ⟨hx, hb, hml, hown, hts⟩ (c_M_whole_JI l _ t0 t1 t2 x6 x4 hk_x4) (pr_pre hRT) (gw_call (k := 2) hts tw_525 tw_526 tw_4 tw_527 (by decide +kernel) rfl rfl ⟨Nat.le_of_ble_eq_true rfl, Nat.le_of_ble_eq_true rfl⟩) rfl hl.1 rfl (Nat.le_of_ble_eq_true rfl) ⟨Nat.zero_le _, Nat.zero_le _⟩ d_M_add_JJI_184 ?_
  refine lv_topl (fun v2 e2 => ?_)
  refine lv_lstore (lv' := [(11, .long v2), (10, .int v1), (8, .long s0), (4, .int x4), (6, .long x6)]) hx hb d_M_add_JJI_187 hl (by decide) rfl (fun ls hl => ?_)
  refine lv_lload hx hb d_M_add_JJI_189 (lv_at hl 2 rfl) ?_
  refine lv_iload hx hb d_M_add_JJI_191 (lv_at hl 3 rfl) ?_
  refine pu_l (As := [.long s0, .int x4]) (rest := []) ⟨hx, hb, hml, hown, hts⟩ (c_M_whole_JI l _ t0 t1 t2 s0 x4 hk_x4) (pr_pre hRT) (gw_call (k := 2) hts tw_525 tw_526 tw_4 tw_527 (by decide +kernel) rfl rfl ⟨Nat.le_of_ble_eq_true rfl, Nat.le_of_ble_eq_true rfl⟩) rfl hl.1 rfl (Nat.le_of_ble_eq_true rfl) ⟨Nat.zero_le _, Nat.zero_le _⟩ d_M_add_JJI_193 ?_
  refine lv_topl (fun v3 e3 => ?_)
  refine lv_lstore (lv' := [(13, .long v3), (11, .long v2), (10, .int v1), (8, .long s0), (4, .int x4), (6, .long x6)]) hx hb d_M_add_JJI_196 hl (by decide) rfl (fun ls hl => ?_)
  refine lv_lload hx hb d_M_add_JJI_198 (lv_at hl 3 rfl) ?_
  refine lv_iload hx hb d_M_add_JJI_200 (lv_at hl 4 rfl) ?_
  refine pu_i (As := [.long s0, .int x4]) (rest := []) ⟨hx, hb, hml, hown, hts⟩ (c_M_power_JI l _ t0 t1 t2 s0 x4 hk_x4) (pr_pre hRT) (gw_call (k := 2) hts tw_530 tw_531 tw_4 tw_532 (by decide +kernel) rfl rfl ⟨Nat.le_of_ble_eq_true rfl, Nat.le_of_ble_eq_true rfl⟩) rfl hl.1 rfl (Nat.le_of_ble_eq_true rfl) ⟨Nat.zero_le _, Nat.zero_le _⟩ d_M_add_JJI_202 ?_
  refine lv_topi (fun v4 e4 => ?_)
  refine lv_istore (lv' := [(15, .int v4), (13, .long v3), (11, .long v2), (10, .int v1), (8, .long s0), (4, .int x4), (6, .long x6)]) hx hb d_M_add_JJI_205 hl (by decide) rfl (fun ls hl => ?_)
  refine lv_iconst (v := 0) hx hb d_M_add_JJI_207 (by decide) ?_
  refine lv_istore (lv' := [(16, .int (0 : Int32)), (15, .int v4), (13, .long v3), (11, .long v2), (10, .int v1), (8, .long s0), (4, .int x4), (6, .long x6)]) hx hb d_M_add_JJI_208 hl (by decide) rfl (fun ls hl => ?_)
  refine lv_iload hx hb d_M_add_JJI_210 (lv_at hl 4 rfl) ?_
  refine lv_bipush (v := (9 : Int32)) hx hb d_M_add_JJI_212 (by decide) ?_
  refine lv_icmp_gt (tgt := 227) hx hb d_M_add_JJI_214 (by decide) (fun c5 => ?_) (fun c5 => ?_)
  · refine lv_lload hx hb d_M_add_JJI_227 (lv_at hl 3 rfl) ?_
    refine lv_bipush (v := (9 : Int32)) hx hb d_M_add_JJI_229 (by decide) ?_
    refine lv_lshl (v := j_shl v2 (9 : Int32)) hx hb d_M_add_JJI_231 rfl ?_
    refine lv_topl (fun v6 e6 => ?_)
    refine lv_lstore (lv' := [(11, .long v6), (16, .int (0 : Int32)), (15, .int v4), (13, .long v3), (10, .int v1), (8, .long s0), (4, .int x4), (6, .long x6)]) hx hb d_M_add_JJI_232 hl (by decide) rfl (fun ls hl => ?_)
    refine lv_lload hx hb d_M_add_JJI_234 (lv_at hl 7 rfl) ?_
    refine lv_iload hx hb d_M_add_JJI_236 (lv_at hl 6 rfl) ?_
    refine pu_i (As := [.long x6, .int x4]) (rest := []) ⟨hx, hb, hml, hown, hts⟩ (c_M_power_JI l _ t0 t1 t2 x6 x4 hk_x4) (pr_pre hRT) (gw_call (k := 2) hts tw_530 tw_531 tw_4 tw_532 (by decide +kernel) rfl rfl ⟨Nat.le_of_ble_eq_true rfl, Nat.le_of_ble_eq_true rfl⟩) rfl hl.1 rfl (Nat.le_of_ble_eq_true rfl) ⟨Nat.zero_le _, Nat.zero_le _⟩ d_M_add_JJI_238 ?_
    refine lv_bipush (v := (9 : Int32)) hx hb d_M_add_JJI_241 (by decide) ?_
    refine lv_isub hx hb d_M_add_JJI_243 ?_
    refine lv_topi (fun v7 e7 => ?_)
    refine lv_istore (lv' := [(15, .int v7), (11, .long v6), (16, .int (0 : Int32)), (13, .long v3), (10, .int v1), (8, .long s0), (4, .int x4), (6, .long x6)]) hx hb d_M_add_JJI_244 hl (by decide) rfl (fun ls hl => ?_)
    refine lv_iload hx hb d_M_add_JJI_246 (lv_at hl 4 rfl) ?_
    refine lv_bipush (v := (9 : Int32)) hx hb d_M_add_JJI_248 (by decide) ?_
    refine lv_isub hx hb d_M_add_JJI_250 ?_
    refine lv_topi (fun v8 e8 => ?_)
    refine lv_istore (lv' := [(17, .int v8), (15, .int v7), (11, .long v6), (16, .int (0 : Int32)), (13, .long v3), (10, .int v1), (8, .long s0), (4, .int x4), (6, .long x6)]) hx hb d_M_add_JJI_251 hl (by decide) rfl (fun ls hl => ?_)
    refine lv_iload hx hb d_M_add_JJI_253 (lv_at hl 0 rfl) ?_
    refine lv_bipush (v := (62 : Int32)) hx hb d_M_add_JJI_255 (by decide) ?_
    refine lv_icmp_le (tgt := 275) hx hb d_M_add_JJI_257 (by decide) (fun c9 => ?_) (fun c9 => ?_)
    · refine lv_lload hx hb d_M_add_JJI_275 (lv_at hl 4 rfl) ?_
      refine lv_lconst (v := (1 : Int64)) hx hb d_M_add_JJI_277 (by decide) ?_
      refine lv_iload hx hb d_M_add_JJI_278 (lv_at hl 0 rfl) ?_
      refine lv_lshl (v := j_shl (1 : Int64) v8) hx hb d_M_add_JJI_280 rfl ?_
      refine lv_lconst (v := (1 : Int64)) hx hb d_M_add_JJI_281 (by decide) ?_
      refine lv_lsub hx hb d_M_add_JJI_282 ?_
      refine lv_land hx hb d_M_add_JJI_283 ?_
      refine lv_lconst (v := (0 : Int64)) hx hb d_M_add_JJI_284 (by decide) ?_
      refine W.lcmp hx hb d_M_add_JJI_285 ?_
      refine lv_if_eq (tgt := 293) hx hb d_M_add_JJI_286 (by decide) (fun c10 => ?_) (fun c10 => ?_)
      · refine lv_iconst (v := 0) hx hb d_M_add_JJI_293 (by decide) ?_
        exact k_M_add_JJI_294 C0 hRT x4 x6 s0 v6 v3 v7 v8 (0 : Int32) hk_x4 ls (lv_sub hl [7, 8, 6, 2, 4, 1, 0] rfl) (by have qe1 := e1.symm; have qe2 := e2.symm; have qe3 := e3.symm; have qe4 := e4.symm; have qe6 := e6.symm; have qe7 := e7.symm; have qe8 := e8.symm; subst qe1 qe2 qe3 qe4 qe6 qe7 qe8; exact (hw.trans (Eq.trans (if_pos c5) (Eq.trans (if_pos c9) (if_pos c10)))))
      · refine lv_iconst (v := 1) hx hb d_M_add_JJI_289 (by decide) ?_
        refine lv_goto (tgt := 294) hx hb d_M_add_JJI_290 (by decide) ?_
        exact k_M_add_JJI_294 C0 hRT x4 x6 s0 v6 v3 v7 v8 (1 : Int32) hk_x4 ls (lv_sub hl [7, 8, 6, 2, 4, 1, 0] rfl) (by have qe1 := e1.symm; have qe2 := e2.symm; have qe3 := e3.symm; have qe4 := e4.symm; have qe6 := e6.symm; have qe7 := e7.symm; have qe8 := e8.symm; subst qe1 qe2 qe3 qe4 qe6 qe7 qe8; exact (hw.trans (Eq.trans (if_pos c5) (Eq.trans (if_pos c9) (if_neg c10)))))
    · refine lv_lload hx hb d_M_add_JJI_260 (lv_at hl 4 rfl) ?_
      refine lv_lconst (v := (0 : Int64)) hx hb d_M_add_JJI_262 (by decide) ?_
      refine W.lcmp hx hb d_M_add_JJI_263 ?_
      refine lv_if_eq (tgt := 271) hx hb d_M_add_JJI_264 (by decide) (fun c11 => ?_) (fun c11 => ?_)
      · refine lv_iconst (v := 0) hx hb d_M_add_JJI_271 (by decide) ?_
        refine lv_goto (tgt := 294) hx hb d_M_add_JJI_272 (by decide) ?_
        exact k_M_add_JJI_294 C0 hRT x4 x6 s0 v6 v3 v7 v8 (0 : Int32) hk_x4 ls (lv_sub hl [7, 8, 6, 2, 4, 1, 0] rfl) (by have qe1 := e1.symm; have qe2 := e2.symm; have qe3 := e3.symm; have qe4 := e4.symm; have qe6 := e6.symm; have qe7 := e7.symm; have qe8 := e8.symm; subst qe1 qe2 qe3 qe4 qe6 qe7 qe8; exact (hw.trans (Eq.trans (if_pos c5) (Eq.trans (if_neg c9) (if_pos c11)))))
      · refine lv_iconst (v := 1) hx hb d_M_add_JJI_267 (by decide) ?_
        refine lv_goto (tgt := 294) hx hb d_M_add_JJI_268 (by decide) ?_
        exact k_M_add_JJI_294 C0 hRT x4 x6 s0 v6 v3 v7 v8 (1 : Int32) hk_x4 ls (lv_sub hl [7, 8, 6, 2, 4, 1, 0] rfl) (by have qe1 := e1.symm; have qe2 := e2.symm; have qe3 := e3.symm; have qe4 := e4.symm; have qe6 := e6.symm; have qe7 := e7.symm; have qe8 := e8.symm; subst qe1 qe2 qe3 qe4 qe6 qe7 qe8; exact (hw.trans (Eq.trans (if_pos c5) (Eq.trans (if_neg c9) (if_neg c11)))))
  · refine lv_lload hx hb d_M_add_JJI_217 (lv_at hl 3 rfl) ?_
    refine lv_iload hx hb d_M_add_JJI_219 (lv_at hl 4 rfl) ?_
    refine lv_lshl (v := j_shl v2 v1) hx hb d_M_add_JJI_221 rfl ?_
    refine lv_topl (fun v12 e12 => ?_)
    refine lv_lstore (lv' := [(11, .long v12), (16, .int (0 : Int32)), (15, .int v4), (13, .long v3), (10, .int v1), (8, .long s0), (4, .int x4), (6, .long x6)]) hx hb d_M_add_JJI_222 hl (by decide) rfl (fun ls hl => ?_)
    refine lv_goto (tgt := 314) hx hb d_M_add_JJI_224 (by decide) ?_
    exact k_M_add_JJI_314 C0 hRT x4 x6 s0 v12 v3 v4 (0 : Int32) hk_x4 ls (lv_sub hl [6, 7, 5, 0, 3, 2, 1] rfl) (by have qe1 := e1.symm; have qe2 := e2.symm; have qe3 := e3.symm; have qe4 := e4.symm; have qe12 := e12.symm; subst qe1 qe2 qe3 qe4 qe12; exact (hw.trans (if_neg c5)))
def f_M_add_JJI_149 (x0 : Int64) (x2 : Int64) (x4 : Int32) (x5 : Int32) (s0 : Int64) : Int64 :=
  if x5 = 0 then
    f_M_add_JJI_161 x4 s0 x0
  else
    f_M_add_JJI_161 x4 s0 x2
set_option maxHeartbeats 4000000 in
set_option maxRecDepth 100000 in
theorem k_M_add_JJI_149 {p : Program} {l : Launch} {e : Env} {s : State} {m : MethodId} {args : Array Value} {below : List Frame} {meth : Method} {c : Code} (C0 : pu_C p s m args meth c b_M_add_JJI 19 "MotionLabModel" (some .long) (gw y_M_add_JJI b_M_add_JJI 19 (some .long))) {t0 t1 t2 : Nat} (hRT : RTH t0 t1 t2 s s.heap) (x0 : Int64) (x2 : Int64) (x4 : Int32) (x5 : Int32) (s0 : Int64) (hk_x4 : vp_in x4 2) (ls : Array Slot) (hl : lv_has ls 19 [(0, .long x0), (2, .long x2), (4, .int x4), (5, .int x5)]) {w : Int64} (hw : w = f_M_add_JJI_149 x0 x2 x4 x5 s0) : W p l e (headSpec (gw y_M_add_JJI b_M_add_JJI 19 (some .long)) ({ frames := 3, cells := 0, slots := 0, locals := 77 } : Room)).room s m args below meth c s.heap [] 0 0 (pu_Ql w below args s) (F0 m 149 ls [.long s0]) := by
  obtain ⟨hx, hb, hml, hown, hts, hr, hlocks⟩ := id C0
  obtain ⟨hT0, hT1, hT2⟩ := id hRT
  refine lv_lstore (lv' := [(6, .long s0), (0, .long x0), (2, .long x2), (4, .int x4), (5, .int x5)]) hx hb d_M_add_JJI_149 hl (by decide) rfl (fun ls hl => ?_)
  refine lv_iload hx hb d_M_add_JJI_151 (lv_at hl 4 rfl) ?_
  refine lv_if_eq (tgt := 160) hx hb d_M_add_JJI_153 (by decide) (fun c1 => ?_) (fun c1 => ?_)
  · refine lv_lload_n hx hb d_M_add_JJI_160 rfl (lv_at hl 1 rfl) ?_
    exact k_M_add_JJI_161 C0 hRT x4 s0 x0 hk_x4 ls (lv_sub hl [3, 0] rfl) (by exact (hw.trans (if_pos c1)))
  · refine lv_lload_n hx hb d_M_add_JJI_156 rfl (lv_at hl 2 rfl) ?_
    refine lv_goto (tgt := 161) hx hb d_M_add_JJI_157 (by decide) ?_
    exact k_M_add_JJI_161 C0 hRT x4 s0 x2 hk_x4 ls (lv_sub hl [3, 0] rfl) (by exact (hw.trans (if_neg c1)))
def f_M_add_JJI_137 (x0 : Int64) (x2 : Int64) (x4 : Int32) (s0 : Int32) : Int64 :=
  if s0 = 0 then
    f_M_add_JJI_149 x0 x2 x4 s0 x2
  else
    f_M_add_JJI_149 x0 x2 x4 s0 x0
set_option maxHeartbeats 4000000 in
set_option maxRecDepth 100000 in
theorem k_M_add_JJI_137 {p : Program} {l : Launch} {e : Env} {s : State} {m : MethodId} {args : Array Value} {below : List Frame} {meth : Method} {c : Code} (C0 : pu_C p s m args meth c b_M_add_JJI 19 "MotionLabModel" (some .long) (gw y_M_add_JJI b_M_add_JJI 19 (some .long))) {t0 t1 t2 : Nat} (hRT : RTH t0 t1 t2 s s.heap) (x0 : Int64) (x2 : Int64) (x4 : Int32) (s0 : Int32) (hk_x4 : vp_in x4 2) (ls : Array Slot) (hl : lv_has ls 19 [(0, .long x0), (2, .long x2), (4, .int x4)]) {w : Int64} (hw : w = f_M_add_JJI_137 x0 x2 x4 s0) : W p l e (headSpec (gw y_M_add_JJI b_M_add_JJI 19 (some .long)) ({ frames := 3, cells := 0, slots := 0, locals := 77 } : Room)).room s m args below meth c s.heap [] 0 0 (pu_Ql w below args s) (F0 m 137 ls [.int s0]) := by
  obtain ⟨hx, hb, hml, hown, hts, hr, hlocks⟩ := id C0
  obtain ⟨hT0, hT1, hT2⟩ := id hRT
  refine lv_istore (lv' := [(5, .int s0), (0, .long x0), (2, .long x2), (4, .int x4)]) hx hb d_M_add_JJI_137 hl (by decide) rfl (fun ls hl => ?_)
  refine lv_iload hx hb d_M_add_JJI_139 (lv_at hl 0 rfl) ?_
  refine lv_if_eq (tgt := 148) hx hb d_M_add_JJI_141 (by decide) (fun c1 => ?_) (fun c1 => ?_)
  · refine lv_lload_n hx hb d_M_add_JJI_148 rfl (lv_at hl 2 rfl) ?_
    exact k_M_add_JJI_149 C0 hRT x0 x2 x4 s0 x2 hk_x4 ls (lv_sub hl [1, 2, 3, 0] rfl) (by exact (hw.trans (if_pos c1)))
  · refine lv_lload_n hx hb d_M_add_JJI_144 rfl (lv_at hl 1 rfl) ?_
    refine lv_goto (tgt := 149) hx hb d_M_add_JJI_145 (by decide) ?_
    exact k_M_add_JJI_149 C0 hRT x0 x2 x4 s0 x0 hk_x4 ls (lv_sub hl [1, 2, 3, 0] rfl) (by exact (hw.trans (if_neg c1)))
def f_M_add_JJI_117 (x0 : Int64) (x2 : Int64) (x4 : Int32) : Int64 :=
  if (f_M_power_JI x0 x4) < (f_M_power_JI x2 x4) then
    f_M_add_JJI_137 x0 x2 x4 (0 : Int32)
  else
    f_M_add_JJI_137 x0 x2 x4 (1 : Int32)
set_option maxHeartbeats 4000000 in
set_option maxRecDepth 100000 in
theorem k_M_add_JJI_117 {p : Program} {l : Launch} {e : Env} {s : State} {m : MethodId} {args : Array Value} {below : List Frame} {meth : Method} {c : Code} (C0 : pu_C p s m args meth c b_M_add_JJI 19 "MotionLabModel" (some .long) (gw y_M_add_JJI b_M_add_JJI 19 (some .long))) {t0 t1 t2 : Nat} (hRT : RTH t0 t1 t2 s s.heap) (x0 : Int64) (x2 : Int64) (x4 : Int32) (hk_x4 : vp_in x4 2) (ls : Array Slot) (hl : lv_has ls 19 [(0, .long x0), (2, .long x2), (4, .int x4)]) {w : Int64} (hw : w = f_M_add_JJI_117 x0 x2 x4) : W p l e (headSpec (gw y_M_add_JJI b_M_add_JJI 19 (some .long)) ({ frames := 3, cells := 0, slots := 0, locals := 77 } : Room)).room s m args below meth c s.heap [] 0 0 (pu_Ql w below args s) (F0 m 117 ls []) := by
  obtain ⟨hx, hb, hml, hown, hts, hr, hlocks⟩ := id C0
  obtain ⟨hT0, hT1, hT2⟩ := id hRT
  refine lv_lload_n hx hb d_M_add_JJI_117 rfl (lv_at hl 0 rfl) ?_
  refine lv_iload hx hb d_M_add_JJI_118 (lv_at hl 2 rfl) ?_
  refine pu_i (As := [.long x0, .int x4]) (rest := []) ⟨hx, hb, hml, hown, hts⟩ (c_M_power_JI l _ t0 t1 t2 x0 x4 hk_x4) (pr_pre hRT) (gw_call (k := 2) hts tw_530 tw_531 tw_4 tw_532 (by decide +kernel) rfl rfl ⟨Nat.le_of_ble_eq_true rfl, Nat.le_of_ble_eq_true rfl⟩) rfl hl.1 rfl (Nat.le_of_ble_eq_true rfl) ⟨Nat.zero_le _, Nat.zero_le _⟩ d_M_add_JJI_120 ?_
  refine lv_lload_n hx hb d_M_add_JJI_123 rfl (lv_at hl 1 rfl) ?_
  refine lv_iload hx hb d_M_add_JJI_124 (lv_at hl 2 rfl) ?_
  refine pu_i (As := [.long x2, .int x4]) (rest := [.int (f_M_power_JI x0 x4)]) ⟨hx, hb, hml, hown, hts⟩ (c_M_power_JI l _ t0 t1 t2 x2 x4 hk_x4) (pr_pre hRT) (gw_call (k := 2) hts tw_530 tw_531 tw_4 tw_532 (by decide +kernel) rfl rfl ⟨Nat.le_of_ble_eq_true rfl, Nat.le_of_ble_eq_true rfl⟩) rfl hl.1 rfl (Nat.le_of_ble_eq_true rfl) ⟨Nat.zero_le _, Nat.zero_le _⟩ d_M_add_JJI_126 ?_
  refine lv_icmp_lt (tgt := 136) hx hb d_M_add_JJI_129 (by decide) (fun c1 => ?_) (fun c1 => ?_)
  · refine lv_iconst (v := 0) hx hb d_M_add_JJI_136 (by decide) ?_
    exact k_M_add_JJI_137 C0 hRT x0 x2 x4 (0 : Int32) hk_x4 ls (lv_sub hl [0, 1, 2] rfl) (by exact (hw.trans (if_pos c1)))
  · refine lv_iconst (v := 1) hx hb d_M_add_JJI_132 (by decide) ?_
    refine lv_goto (tgt := 137) hx hb d_M_add_JJI_133 (by decide) ?_
    exact k_M_add_JJI_137 C0 hRT x0 x2 x4 (1 : Int32) hk_x4 ls (lv_sub hl [0, 1, 2] rfl) (by exact (hw.trans (if_neg c1)))
def f_M_add_JJI_72 (x0 : Int64) (x2 : Int64) (x4 : Int32) : Int64 :=
  if (f_M_isInfinite_JI x0 x4) = 0 then
    x2
  else
    x0
set_option maxHeartbeats 4000000 in
set_option maxRecDepth 100000 in
theorem k_M_add_JJI_72 {p : Program} {l : Launch} {e : Env} {s : State} {m : MethodId} {args : Array Value} {below : List Frame} {meth : Method} {c : Code} (C0 : pu_C p s m args meth c b_M_add_JJI 19 "MotionLabModel" (some .long) (gw y_M_add_JJI b_M_add_JJI 19 (some .long))) {t0 t1 t2 : Nat} (hRT : RTH t0 t1 t2 s s.heap) (x0 : Int64) (x2 : Int64) (x4 : Int32) (hk_x4 : vp_in x4 2) (ls : Array Slot) (hl : lv_has ls 19 [(0, .long x0), (2, .long x2), (4, .int x4)]) {w : Int64} (hw : w = f_M_add_JJI_72 x0 x2 x4) : W p l e (headSpec (gw y_M_add_JJI b_M_add_JJI 19 (some .long)) ({ frames := 3, cells := 0, slots := 0, locals := 77 } : Room)).room s m args below meth c s.heap [] 0 0 (pu_Ql w below args s) (F0 m 72 ls []) := by
  obtain ⟨hx, hb, hml, hown, hts, hr, hlocks⟩ := id C0
  obtain ⟨hT0, hT1, hT2⟩ := id hRT
  refine lv_lload_n hx hb d_M_add_JJI_72 rfl (lv_at hl 0 rfl) ?_
  refine lv_iload hx hb d_M_add_JJI_73 (lv_at hl 2 rfl) ?_
  refine pu_i (As := [.long x0, .int x4]) (rest := []) ⟨hx, hb, hml, hown, hts⟩ (c_M_isInfinite_JI l _ x0 x4) pu_pre (gw_call (k := 2) hts tw_516 tw_517 tw_4 tw_518 (by decide +kernel) rfl rfl ⟨Nat.le_of_ble_eq_true rfl, Nat.le_of_ble_eq_true rfl⟩) rfl hl.1 rfl (Nat.le_of_ble_eq_true rfl) ⟨Nat.zero_le _, Nat.zero_le _⟩ d_M_add_JJI_75 ?_
  refine lv_if_eq (tgt := 85) hx hb d_M_add_JJI_78 (by decide) (fun c1 => ?_) (fun c1 => ?_)
  · refine lv_lload_n hx hb d_M_add_JJI_85 rfl (lv_at hl 1 rfl) ?_
    exact pu_lret hx hb hr hlocks d_M_add_JJI_86 (by exact Eq.symm (hw.trans (if_pos c1)))
  · refine lv_lload_n hx hb d_M_add_JJI_81 rfl (lv_at hl 0 rfl) ?_
    refine lv_goto (tgt := 86) hx hb d_M_add_JJI_82 (by decide) ?_
    exact pu_lret hx hb hr hlocks d_M_add_JJI_86 (by exact Eq.symm (hw.trans (if_neg c1)))
def f_M_add_JJI_42 (x0 : Int64) (x2 : Int64) (x4 : Int32) : Int64 :=
  if (f_M_isInfinite_JI x0 x4) = 0 then
    f_M_add_JJI_72 x0 x2 x4
  else
    if (f_M_isInfinite_JI x2 x4) = 0 then
      f_M_add_JJI_72 x0 x2 x4
    else
      if (lg_cmp x0 x2) = 0 then
        f_M_add_JJI_72 x0 x2 x4
      else
        f_M_none_I x4
set_option maxHeartbeats 4000000 in
set_option maxRecDepth 100000 in
theorem k_M_add_JJI_42 {p : Program} {l : Launch} {e : Env} {s : State} {m : MethodId} {args : Array Value} {below : List Frame} {meth : Method} {c : Code} (C0 : pu_C p s m args meth c b_M_add_JJI 19 "MotionLabModel" (some .long) (gw y_M_add_JJI b_M_add_JJI 19 (some .long))) {t0 t1 t2 : Nat} (hRT : RTH t0 t1 t2 s s.heap) (x0 : Int64) (x2 : Int64) (x4 : Int32) (hk_x4 : vp_in x4 2) (ls : Array Slot) (hl : lv_has ls 19 [(0, .long x0), (2, .long x2), (4, .int x4)]) {w : Int64} (hw : w = f_M_add_JJI_42 x0 x2 x4) : W p l e (headSpec (gw y_M_add_JJI b_M_add_JJI 19 (some .long)) ({ frames := 3, cells := 0, slots := 0, locals := 77 } : Room)).room s m args below meth c s.heap [] 0 0 (pu_Ql w below args s) (F0 m 42 ls []) := by
  obtain ⟨hx, hb, hml, hown, hts, hr, hlocks⟩ := id C0
  obtain ⟨hT0, hT1, hT2⟩ := id hRT
  refine lv_lload_n hx hb d_M_add_JJI_42 rfl (lv_at hl 0 rfl) ?_
  refine lv_iload hx hb d_M_add_JJI_43 (lv_at hl 2 rfl) ?_
  refine pu_i (As := [.long x0, .int x4]) (rest := []) ⟨hx, hb, hml, hown, hts⟩ (c_M_isInfinite_JI l _ x0 x4) pu_pre (gw_call (k := 2) hts tw_516 tw_517 tw_4 tw_518 (by decide +kernel) rfl rfl ⟨Nat.le_of_ble_eq_true rfl, Nat.le_of_ble_eq_true rfl⟩) rfl hl.1 rfl (Nat.le_of_ble_eq_true rfl) ⟨Nat.zero_le _, Nat.zero_le _⟩ d_M_add_JJI_45 ?_
  refine lv_if_eq (tgt := 72) hx hb d_M_add_JJI_48 (by decide) (fun c1 => ?_) (fun c1 => ?_)
  · exact k_M_add_JJI_72 C0 hRT x0 x2 x4 hk_x4 ls (lv_sub hl [0, 1, 2] rfl) (by exact (hw.trans (if_pos c1)))
  · refine lv_lload_n hx hb d_M_add_JJI_51 rfl (lv_at hl 1 rfl) ?_
    refine lv_iload hx hb d_M_add_JJI_52 (lv_at hl 2 rfl) ?_
    refine pu_i (As := [.long x2, .int x4]) (rest := []) ⟨hx, hb, hml, hown, hts⟩ (c_M_isInfinite_JI l _ x2 x4) pu_pre (gw_call (k := 2) hts tw_516 tw_517 tw_4 tw_518 (by decide +kernel) rfl rfl ⟨Nat.le_of_ble_eq_true rfl, Nat.le_of_ble_eq_true rfl⟩) rfl hl.1 rfl (Nat.le_of_ble_eq_true rfl) ⟨Nat.zero_le _, Nat.zero_le _⟩ d_M_add_JJI_54 ?_
    refine lv_if_eq (tgt := 72) hx hb d_M_add_JJI_57 (by decide) (fun c2 => ?_) (fun c2 => ?_)
    · exact k_M_add_JJI_72 C0 hRT x0 x2 x4 hk_x4 ls (lv_sub hl [0, 1, 2] rfl) (by exact (hw.trans (Eq.trans (if_neg c1) (if_pos c2))))
    · refine lv_lload_n hx hb d_M_add_JJI_60 rfl (lv_at hl 0 rfl) ?_
      refine lv_lload_n hx hb d_M_add_JJI_61 rfl (lv_at hl 1 rfl) ?_
      refine W.lcmp hx hb d_M_add_JJI_62 ?_
      refine lv_if_eq (tgt := 72) hx hb d_M_add_JJI_63 (by decide) (fun c3 => ?_) (fun c3 => ?_)
      · exact k_M_add_JJI_72 C0 hRT x0 x2 x4 hk_x4 ls (lv_sub hl [0, 1, 2] rfl) (by exact (hw.trans (Eq.trans (if_neg c1) (Eq.trans (if_neg c2) (if_pos c3)))))
      · refine lv_iload hx hb d_M_add_JJI_66 (lv_at hl 2 rfl) ?_
        refine pu_l (As := [.int x4]) (rest := []) ⟨hx, hb, hml, hown, hts⟩ (c_M_none_I l _ x4) pu_pre (gw_call (k := 1) hts tw_511 tw_512 tw_4 tw_513 (by decide +kernel) rfl rfl ⟨Nat.le_of_ble_eq_true rfl, Nat.le_of_ble_eq_true rfl⟩) rfl hl.1 rfl (Nat.le_of_ble_eq_true rfl) ⟨Nat.zero_le _, Nat.zero_le _⟩ d_M_add_JJI_68 ?_
        exact pu_lret hx hb hr hlocks d_M_add_JJI_71 (by exact Eq.symm (hw.trans (Eq.trans (if_neg c1) (Eq.trans (if_neg c2) (if_neg c3)))))
def f_M_add_JJI (x0 : Int64) (x2 : Int64) (x4 : Int32) : Int64 :=
  if (f_M_isNone_JI x0 x4) = 0 then
    if (f_M_isNone_JI x2 x4) = 0 then
      if (f_M_isInfinite_JI x0 x4) = 0 then
        if (f_M_isInfinite_JI x2 x4) = 0 then
          if (f_M_isZero_JI x0 x4) = 0 then
            f_M_add_JJI_117 x0 x2 x4
          else
            if (f_M_isZero_JI x2 x4) = 0 then
              f_M_add_JJI_117 x0 x2 x4
            else
              if (lg_cmp x0 x2) = 0 then
                x0
              else
                (0 : Int64)
        else
          f_M_add_JJI_42 x0 x2 x4
      else
        f_M_add_JJI_42 x0 x2 x4
    else
      f_M_none_I x4
  else
    f_M_none_I x4
set_option maxHeartbeats 4000000 in
set_option maxRecDepth 100000 in
theorem c_M_add_JJI (l : Launch) (h : Heap) (t0 t1 t2 : Nat) (x0 : Int64) (x2 : Int64) (x4 : Int32) (hk_x4 : vp_in x4 2) : Met l y_M_add_JJI (gw y_M_add_JJI b_M_add_JJI 19 (some .long)) { frames := 3, cells := 0, slots := 0, locals := 77 } (pr_Pc [.long x0, .long x2, .int x4] h t0 t1 t2) (pu_Ml (f_M_add_JJI x0 x2 x4) h) 0 0 (fun _ => False) := by
  refine Met.ofW (cc := b_M_add_JJI) (maxL := 19) (ret := (some .long)) (by decide) rfl ?_
  intro p e s m args below meth c s₁ B hml hv
  obtain ⟨rfl, hh, hRT⟩ := hv
  subst hh
  obtain ⟨hT0, hT1, hT2⟩ := id hRT
  have hx := B.exec
  have hb := B.bytes
  have hr := B.returns
  have hts := atoms_spec (ws := (gw y_M_add_JJI b_M_add_JJI 19 (some .long))) B.pre
  have hown : s.vm.findClass "MotionLabModel" = some m.cls := findClass_of_methodNamed B.named
  have hlocks := B.notSynchronized
  have C0 : pu_C p s m _ meth c b_M_add_JJI 19 "MotionLabModel" (some .long) (gw y_M_add_JJI b_M_add_JJI 19 (some .long)) := ⟨hx, hb, hml, hown, hts, hr, hlocks⟩
  have hl := lv_entry ([.long x0, .long x2, .int x4]) (n := 19) (Nat.le_of_ble_eq_true rfl)
  rw [lg_entry_eq]
  generalize (lg_sl ([.long x0, .long x2, .int x4]) ++ List.replicate (19 - (lg_sl ([.long x0, .long x2, .int x4])).length) Slot.unset).toArray = ls at hl ⊢
  have hl : lv_has ls 19 [(0, .long x0), (2, .long x2), (4, .int x4)] := hl
  refine lv_lload_n hx hb d_M_add_JJI_0 rfl (lv_at hl 0 rfl) ?_
  refine lv_iload hx hb d_M_add_JJI_1 (lv_at hl 2 rfl) ?_
  refine pu_i (As := [.long x0, .int x4]) (rest := []) ⟨hx, hb, hml, hown, hts⟩ (c_M_isNone_JI l _ x0 x4) pu_pre (gw_call (k := 2) hts tw_498 tw_499 tw_4 tw_500 (by decide +kernel) rfl rfl ⟨Nat.le_of_ble_eq_true rfl, Nat.le_of_ble_eq_true rfl⟩) rfl hl.1 rfl (Nat.le_of_ble_eq_true rfl) ⟨Nat.zero_le _, Nat.zero_le _⟩ d_M_add_JJI_3 ?_
  refine lv_if_ne (tgt := 18) hx hb d_M_add_JJI_6 (by decide) (fun c1 => ?_) (fun c1 => ?_)
  · refine lv_iload hx hb d_M_add_JJI_18 (lv_at hl 2 rfl) ?_
    refine pu_l (As := [.int x4]) (rest := []) ⟨hx, hb, hml, hown, hts⟩ (c_M_none_I l _ x4) pu_pre (gw_call (k := 1) hts tw_511 tw_512 tw_4 tw_513 (by decide +kernel) rfl rfl ⟨Nat.le_of_ble_eq_true rfl, Nat.le_of_ble_eq_true rfl⟩) rfl hl.1 rfl (Nat.le_of_ble_eq_true rfl) ⟨Nat.zero_le _, Nat.zero_le _⟩ d_M_add_JJI_20 ?_
    exact pu_lret hx hb hr hlocks d_M_add_JJI_23 (by exact Eq.symm (if_neg c1))
  · refine lv_lload_n hx hb d_M_add_JJI_9 rfl (lv_at hl 1 rfl) ?_
    refine lv_iload hx hb d_M_add_JJI_10 (lv_at hl 2 rfl) ?_
    refine pu_i (As := [.long x2, .int x4]) (rest := []) ⟨hx, hb, hml, hown, hts⟩ (c_M_isNone_JI l _ x2 x4) pu_pre (gw_call (k := 2) hts tw_498 tw_499 tw_4 tw_500 (by decide +kernel) rfl rfl ⟨Nat.le_of_ble_eq_true rfl, Nat.le_of_ble_eq_true rfl⟩) rfl hl.1 rfl (Nat.le_of_ble_eq_true rfl) ⟨Nat.zero_le _, Nat.zero_le _⟩ d_M_add_JJI_12 ?_
    refine lv_if_eq (tgt := 24) hx hb d_M_add_JJI_15 (by decide) (fun c2 => ?_) (fun c2 => ?_)
    · refine lv_lload_n hx hb d_M_add_JJI_24 rfl (lv_at hl 0 rfl) ?_
      refine lv_iload hx hb d_M_add_JJI_25 (lv_at hl 2 rfl) ?_
      refine pu_i (As := [.long x0, .int x4]) (rest := []) ⟨hx, hb, hml, hown, hts⟩ (c_M_isInfinite_JI l _ x0 x4) pu_pre (gw_call (k := 2) hts tw_516 tw_517 tw_4 tw_518 (by decide +kernel) rfl rfl ⟨Nat.le_of_ble_eq_true rfl, Nat.le_of_ble_eq_true rfl⟩) rfl hl.1 rfl (Nat.le_of_ble_eq_true rfl) ⟨Nat.zero_le _, Nat.zero_le _⟩ d_M_add_JJI_27 ?_
      refine lv_if_ne (tgt := 42) hx hb d_M_add_JJI_30 (by decide) (fun c3 => ?_) (fun c3 => ?_)
      · exact k_M_add_JJI_42 C0 hRT x0 x2 x4 hk_x4 ls (lv_sub hl [0, 1, 2] rfl) (by exact (Eq.trans (if_pos c1) (Eq.trans (if_pos c2) (if_neg c3))))
      · refine lv_lload_n hx hb d_M_add_JJI_33 rfl (lv_at hl 1 rfl) ?_
        refine lv_iload hx hb d_M_add_JJI_34 (lv_at hl 2 rfl) ?_
        refine pu_i (As := [.long x2, .int x4]) (rest := []) ⟨hx, hb, hml, hown, hts⟩ (c_M_isInfinite_JI l _ x2 x4) pu_pre (gw_call (k := 2) hts tw_516 tw_517 tw_4 tw_518 (by decide +kernel) rfl rfl ⟨Nat.le_of_ble_eq_true rfl, Nat.le_of_ble_eq_true rfl⟩) rfl hl.1 rfl (Nat.le_of_ble_eq_true rfl) ⟨Nat.zero_le _, Nat.zero_le _⟩ d_M_add_JJI_36 ?_
        refine lv_if_eq (tgt := 87) hx hb d_M_add_JJI_39 (by decide) (fun c4 => ?_) (fun c4 => ?_)
        · refine lv_lload_n hx hb d_M_add_JJI_87 rfl (lv_at hl 0 rfl) ?_
          refine lv_iload hx hb d_M_add_JJI_88 (lv_at hl 2 rfl) ?_
          refine pu_i (As := [.long x0, .int x4]) (rest := []) ⟨hx, hb, hml, hown, hts⟩ (c_M_isZero_JI l _ x0 x4) pu_pre (gw_call (k := 2) hts tw_579 tw_580 tw_4 tw_581 (by decide +kernel) rfl rfl ⟨Nat.le_of_ble_eq_true rfl, Nat.le_of_ble_eq_true rfl⟩) rfl hl.1 rfl (Nat.le_of_ble_eq_true rfl) ⟨Nat.zero_le _, Nat.zero_le _⟩ d_M_add_JJI_90 ?_
          refine lv_if_eq (tgt := 117) hx hb d_M_add_JJI_93 (by decide) (fun c5 => ?_) (fun c5 => ?_)
          · exact k_M_add_JJI_117 C0 hRT x0 x2 x4 hk_x4 ls (lv_sub hl [0, 1, 2] rfl) (by exact (Eq.trans (if_pos c1) (Eq.trans (if_pos c2) (Eq.trans (if_pos c3) (Eq.trans (if_pos c4) (if_pos c5))))))
          · refine lv_lload_n hx hb d_M_add_JJI_96 rfl (lv_at hl 1 rfl) ?_
            refine lv_iload hx hb d_M_add_JJI_97 (lv_at hl 2 rfl) ?_
            refine pu_i (As := [.long x2, .int x4]) (rest := []) ⟨hx, hb, hml, hown, hts⟩ (c_M_isZero_JI l _ x2 x4) pu_pre (gw_call (k := 2) hts tw_579 tw_580 tw_4 tw_581 (by decide +kernel) rfl rfl ⟨Nat.le_of_ble_eq_true rfl, Nat.le_of_ble_eq_true rfl⟩) rfl hl.1 rfl (Nat.le_of_ble_eq_true rfl) ⟨Nat.zero_le _, Nat.zero_le _⟩ d_M_add_JJI_99 ?_
            refine lv_if_eq (tgt := 117) hx hb d_M_add_JJI_102 (by decide) (fun c6 => ?_) (fun c6 => ?_)
            · exact k_M_add_JJI_117 C0 hRT x0 x2 x4 hk_x4 ls (lv_sub hl [0, 1, 2] rfl) (by exact (Eq.trans (if_pos c1) (Eq.trans (if_pos c2) (Eq.trans (if_pos c3) (Eq.trans (if_pos c4) (Eq.trans (if_neg c5) (if_pos c6)))))))
            · refine lv_lload_n hx hb d_M_add_JJI_105 rfl (lv_at hl 0 rfl) ?_
              refine lv_lload_n hx hb d_M_add_JJI_106 rfl (lv_at hl 1 rfl) ?_
              refine W.lcmp hx hb d_M_add_JJI_107 ?_
              refine lv_if_ne (tgt := 115) hx hb d_M_add_JJI_108 (by decide) (fun c7 => ?_) (fun c7 => ?_)
              · refine lv_lconst (v := (0 : Int64)) hx hb d_M_add_JJI_115 (by decide) ?_
                exact pu_lret hx hb hr hlocks d_M_add_JJI_116 (by exact Eq.symm (Eq.trans (if_pos c1) (Eq.trans (if_pos c2) (Eq.trans (if_pos c3) (Eq.trans (if_pos c4) (Eq.trans (if_neg c5) (Eq.trans (if_neg c6) (if_neg c7))))))))
              · refine lv_lload_n hx hb d_M_add_JJI_111 rfl (lv_at hl 0 rfl) ?_
                refine lv_goto (tgt := 116) hx hb d_M_add_JJI_112 (by decide) ?_
                exact pu_lret hx hb hr hlocks d_M_add_JJI_116 (by exact Eq.symm (Eq.trans (if_pos c1) (Eq.trans (if_pos c2) (Eq.trans (if_pos c3) (Eq.trans (if_pos c4) (Eq.trans (if_neg c5) (Eq.trans (if_neg c6) (if_pos c7))))))))
        · exact k_M_add_JJI_42 C0 hRT x0 x2 x4 hk_x4 ls (lv_sub hl [0, 1, 2] rfl) (by exact (Eq.trans (if_pos c1) (Eq.trans (if_pos c2) (Eq.trans (if_pos c3) (if_neg c4)))))
    · refine lv_iload hx hb d_M_add_JJI_18 (lv_at hl 2 rfl) ?_
      refine pu_l (As := [.int x4]) (rest := []) ⟨hx, hb, hml, hown, hts⟩ (c_M_none_I l _ x4) pu_pre (gw_call (k := 1) hts tw_511 tw_512 tw_4 tw_513 (by decide +kernel) rfl rfl ⟨Nat.le_of_ble_eq_true rfl, Nat.le_of_ble_eq_true rfl⟩) rfl hl.1 rfl (Nat.le_of_ble_eq_true rfl) ⟨Nat.zero_le _, Nat.zero_le _⟩ d_M_add_JJI_20 ?_
      exact pu_lret hx hb hr hlocks d_M_add_JJI_23 (by exact Eq.symm (Eq.trans (if_pos c1) (if_neg c2)))
