-- ===== MotionLab$Plane.collide(II)V 
abbrev y_P_collide_II : MethodName := ⟨"MotionLab$Plane", "collide", "(II)V"⟩
abbrev b_P_collide_II : ByteArray := prog_3_method_17_code
theorem d_P_collide_II_0 : decode b_P_collide_II 0 = .ok (.aload_n 0, 1) := by decide +kernel
theorem d_P_collide_II_1 : decode b_P_collide_II 1 = .ok (.getfield 9, 3) := by decide +kernel
theorem d_P_collide_II_4 : decode b_P_collide_II 4 = .ok (.iconst 0, 1) := by decide +kernel
theorem d_P_collide_II_5 : decode b_P_collide_II 5 = .ok (.iload_n 2, 1) := by decide +kernel
theorem d_P_collide_II_6 : decode b_P_collide_II 6 = .ok (.iadd, 1) := by decide +kernel
theorem d_P_collide_II_7 : decode b_P_collide_II 7 = .ok (.laload, 1) := by decide +kernel
theorem d_P_collide_II_8 : decode b_P_collide_II 8 = .ok (.aload_n 0, 1) := by decide +kernel
theorem d_P_collide_II_9 : decode b_P_collide_II 9 = .ok (.getfield 9, 3) := by decide +kernel
theorem d_P_collide_II_12 : decode b_P_collide_II 12 = .ok (.iconst 0, 1) := by decide +kernel
theorem d_P_collide_II_13 : decode b_P_collide_II 13 = .ok (.iload_n 1, 1) := by decide +kernel
theorem d_P_collide_II_14 : decode b_P_collide_II 14 = .ok (.iadd, 1) := by decide +kernel
theorem d_P_collide_II_15 : decode b_P_collide_II 15 = .ok (.laload, 1) := by decide +kernel
theorem d_P_collide_II_16 : decode b_P_collide_II 16 = .ok (.invokestatic 70, 3) := by decide +kernel
theorem d_P_collide_II_19 : decode b_P_collide_II 19 = .ok (.lstore_n 3, 1) := by decide +kernel
theorem d_P_collide_II_20 : decode b_P_collide_II 20 = .ok (.aload_n 0, 1) := by decide +kernel
theorem d_P_collide_II_21 : decode b_P_collide_II 21 = .ok (.getfield 9, 3) := by decide +kernel
theorem d_P_collide_II_24 : decode b_P_collide_II 24 = .ok (.bipush 8, 2) := by decide +kernel
theorem d_P_collide_II_26 : decode b_P_collide_II 26 = .ok (.iload_n 2, 1) := by decide +kernel
theorem d_P_collide_II_27 : decode b_P_collide_II 27 = .ok (.iadd, 1) := by decide +kernel
theorem d_P_collide_II_28 : decode b_P_collide_II 28 = .ok (.laload, 1) := by decide +kernel
theorem d_P_collide_II_29 : decode b_P_collide_II 29 = .ok (.aload_n 0, 1) := by decide +kernel
theorem d_P_collide_II_30 : decode b_P_collide_II 30 = .ok (.getfield 9, 3) := by decide +kernel
theorem d_P_collide_II_33 : decode b_P_collide_II 33 = .ok (.bipush 8, 2) := by decide +kernel
theorem d_P_collide_II_35 : decode b_P_collide_II 35 = .ok (.iload_n 1, 1) := by decide +kernel
theorem d_P_collide_II_36 : decode b_P_collide_II 36 = .ok (.iadd, 1) := by decide +kernel
theorem d_P_collide_II_37 : decode b_P_collide_II 37 = .ok (.laload, 1) := by decide +kernel
theorem d_P_collide_II_38 : decode b_P_collide_II 38 = .ok (.invokestatic 70, 3) := by decide +kernel
theorem d_P_collide_II_41 : decode b_P_collide_II 41 = .ok (.lstore 5, 2) := by decide +kernel
theorem d_P_collide_II_43 : decode b_P_collide_II 43 = .ok (.lload_n 3, 1) := by decide +kernel
theorem d_P_collide_II_44 : decode b_P_collide_II 44 = .ok (.lload_n 3, 1) := by decide +kernel
theorem d_P_collide_II_45 : decode b_P_collide_II 45 = .ok (.lload 5, 2) := by decide +kernel
theorem d_P_collide_II_47 : decode b_P_collide_II 47 = .ok (.lload 5, 2) := by decide +kernel
theorem d_P_collide_II_49 : decode b_P_collide_II 49 = .ok (.invokestatic 96, 3) := by decide +kernel
theorem d_P_collide_II_52 : decode b_P_collide_II 52 = .ok (.lstore 7, 2) := by decide +kernel
theorem d_P_collide_II_54 : decode b_P_collide_II 54 = .ok (.aload_n 0, 1) := by decide +kernel
theorem d_P_collide_II_55 : decode b_P_collide_II 55 = .ok (.getfield 9, 3) := by decide +kernel
theorem d_P_collide_II_58 : decode b_P_collide_II 58 = .ok (.bipush 40, 2) := by decide +kernel
theorem d_P_collide_II_60 : decode b_P_collide_II 60 = .ok (.iload_n 1, 1) := by decide +kernel
theorem d_P_collide_II_61 : decode b_P_collide_II 61 = .ok (.iadd, 1) := by decide +kernel
theorem d_P_collide_II_62 : decode b_P_collide_II 62 = .ok (.laload, 1) := by decide +kernel
theorem d_P_collide_II_63 : decode b_P_collide_II 63 = .ok (.aload_n 0, 1) := by decide +kernel
theorem d_P_collide_II_64 : decode b_P_collide_II 64 = .ok (.getfield 9, 3) := by decide +kernel
theorem d_P_collide_II_67 : decode b_P_collide_II 67 = .ok (.bipush 40, 2) := by decide +kernel
theorem d_P_collide_II_69 : decode b_P_collide_II 69 = .ok (.iload_n 2, 1) := by decide +kernel
theorem d_P_collide_II_70 : decode b_P_collide_II 70 = .ok (.iadd, 1) := by decide +kernel
theorem d_P_collide_II_71 : decode b_P_collide_II 71 = .ok (.laload, 1) := by decide +kernel
theorem d_P_collide_II_72 : decode b_P_collide_II 72 = .ok (.invokestatic 63, 3) := by decide +kernel
theorem d_P_collide_II_75 : decode b_P_collide_II 75 = .ok (.invokestatic 31, 3) := by decide +kernel
theorem d_P_collide_II_78 : decode b_P_collide_II 78 = .ok (.lstore 9, 2) := by decide +kernel
theorem d_P_collide_II_80 : decode b_P_collide_II 80 = .ok (.lload 7, 2) := by decide +kernel
theorem d_P_collide_II_82 : decode b_P_collide_II 82 = .ok (.lload 9, 2) := by decide +kernel
theorem d_P_collide_II_84 : decode b_P_collide_II 84 = .ok (.lload 9, 2) := by decide +kernel
theorem d_P_collide_II_86 : decode b_P_collide_II 86 = .ok (.invokestatic 86, 3) := by decide +kernel
theorem d_P_collide_II_89 : decode b_P_collide_II 89 = .ok (.invokestatic 31, 3) := by decide +kernel
theorem d_P_collide_II_92 : decode b_P_collide_II 92 = .ok (.invokestatic 103, 3) := by decide +kernel
theorem d_P_collide_II_95 : decode b_P_collide_II 95 = .ok (.ifCond .eq 12, 3) := by decide +kernel
theorem d_P_collide_II_98 : decode b_P_collide_II 98 = .ok (.lconst 0, 1) := by decide +kernel
theorem d_P_collide_II_99 : decode b_P_collide_II 99 = .ok (.lload 7, 2) := by decide +kernel
theorem d_P_collide_II_101 : decode b_P_collide_II 101 = .ok (.invokestatic 103, 3) := by decide +kernel
theorem d_P_collide_II_104 : decode b_P_collide_II 104 = .ok (.ifCond .ne 4, 3) := by decide +kernel
theorem d_P_collide_II_107 : decode b_P_collide_II 107 = .ok (.return_, 1) := by decide +kernel
theorem d_P_collide_II_108 : decode b_P_collide_II 108 = .ok (.aload_n 0, 1) := by decide +kernel
theorem d_P_collide_II_109 : decode b_P_collide_II 109 = .ok (.getfield 9, 3) := by decide +kernel
theorem d_P_collide_II_112 : decode b_P_collide_II 112 = .ok (.bipush 16, 2) := by decide +kernel
theorem d_P_collide_II_114 : decode b_P_collide_II 114 = .ok (.iload_n 1, 1) := by decide +kernel
theorem d_P_collide_II_115 : decode b_P_collide_II 115 = .ok (.iadd, 1) := by decide +kernel
theorem d_P_collide_II_116 : decode b_P_collide_II 116 = .ok (.laload, 1) := by decide +kernel
theorem d_P_collide_II_117 : decode b_P_collide_II 117 = .ok (.aload_n 0, 1) := by decide +kernel
theorem d_P_collide_II_118 : decode b_P_collide_II 118 = .ok (.getfield 9, 3) := by decide +kernel
theorem d_P_collide_II_121 : decode b_P_collide_II 121 = .ok (.bipush 16, 2) := by decide +kernel
theorem d_P_collide_II_123 : decode b_P_collide_II 123 = .ok (.iload_n 2, 1) := by decide +kernel
theorem d_P_collide_II_124 : decode b_P_collide_II 124 = .ok (.iadd, 1) := by decide +kernel
theorem d_P_collide_II_125 : decode b_P_collide_II 125 = .ok (.laload, 1) := by decide +kernel
theorem d_P_collide_II_126 : decode b_P_collide_II 126 = .ok (.invokestatic 70, 3) := by decide +kernel
theorem d_P_collide_II_129 : decode b_P_collide_II 129 = .ok (.lstore 11, 2) := by decide +kernel
theorem d_P_collide_II_131 : decode b_P_collide_II 131 = .ok (.aload_n 0, 1) := by decide +kernel
theorem d_P_collide_II_132 : decode b_P_collide_II 132 = .ok (.getfield 9, 3) := by decide +kernel
theorem d_P_collide_II_135 : decode b_P_collide_II 135 = .ok (.bipush 24, 2) := by decide +kernel
theorem d_P_collide_II_137 : decode b_P_collide_II 137 = .ok (.iload_n 1, 1) := by decide +kernel
theorem d_P_collide_II_138 : decode b_P_collide_II 138 = .ok (.iadd, 1) := by decide +kernel
theorem d_P_collide_II_139 : decode b_P_collide_II 139 = .ok (.laload, 1) := by decide +kernel
theorem d_P_collide_II_140 : decode b_P_collide_II 140 = .ok (.aload_n 0, 1) := by decide +kernel
theorem d_P_collide_II_141 : decode b_P_collide_II 141 = .ok (.getfield 9, 3) := by decide +kernel
theorem d_P_collide_II_144 : decode b_P_collide_II 144 = .ok (.bipush 24, 2) := by decide +kernel
theorem d_P_collide_II_146 : decode b_P_collide_II 146 = .ok (.iload_n 2, 1) := by decide +kernel
theorem d_P_collide_II_147 : decode b_P_collide_II 147 = .ok (.iadd, 1) := by decide +kernel
theorem d_P_collide_II_148 : decode b_P_collide_II 148 = .ok (.laload, 1) := by decide +kernel
theorem d_P_collide_II_149 : decode b_P_collide_II 149 = .ok (.invokestatic 70, 3) := by decide +kernel
theorem d_P_collide_II_152 : decode b_P_collide_II 152 = .ok (.lstore 13, 2) := by decide +kernel
theorem d_P_collide_II_154 : decode b_P_collide_II 154 = .ok (.lload 11, 2) := by decide +kernel
theorem d_P_collide_II_156 : decode b_P_collide_II 156 = .ok (.lload_n 3, 1) := by decide +kernel
theorem d_P_collide_II_157 : decode b_P_collide_II 157 = .ok (.lload 13, 2) := by decide +kernel
theorem d_P_collide_II_159 : decode b_P_collide_II 159 = .ok (.lload 5, 2) := by decide +kernel
theorem d_P_collide_II_161 : decode b_P_collide_II 161 = .ok (.invokestatic 96, 3) := by decide +kernel
theorem d_P_collide_II_164 : decode b_P_collide_II 164 = .ok (.lload 7, 2) := by decide +kernel
theorem d_P_collide_II_166 : decode b_P_collide_II 166 = .ok (.invokestatic 83, 3) := by decide +kernel
theorem d_P_collide_II_169 : decode b_P_collide_II 169 = .ok (.lstore 15, 2) := by decide +kernel
theorem d_P_collide_II_171 : decode b_P_collide_II 171 = .ok (.lconst 0, 1) := by decide +kernel
theorem d_P_collide_II_172 : decode b_P_collide_II 172 = .ok (.lload 15, 2) := by decide +kernel
theorem d_P_collide_II_174 : decode b_P_collide_II 174 = .ok (.invokestatic 103, 3) := by decide +kernel
theorem d_P_collide_II_177 : decode b_P_collide_II 177 = .ok (.ifCond .ne 4, 3) := by decide +kernel
theorem d_P_collide_II_180 : decode b_P_collide_II 180 = .ok (.return_, 1) := by decide +kernel
theorem d_P_collide_II_181 : decode b_P_collide_II 181 = .ok (.aload_n 0, 1) := by decide +kernel
theorem d_P_collide_II_182 : decode b_P_collide_II 182 = .ok (.getfield 9, 3) := by decide +kernel
theorem d_P_collide_II_185 : decode b_P_collide_II 185 = .ok (.bipush 32, 2) := by decide +kernel
theorem d_P_collide_II_187 : decode b_P_collide_II 187 = .ok (.iload_n 1, 1) := by decide +kernel
theorem d_P_collide_II_188 : decode b_P_collide_II 188 = .ok (.iadd, 1) := by decide +kernel
theorem d_P_collide_II_189 : decode b_P_collide_II 189 = .ok (.laload, 1) := by decide +kernel
theorem d_P_collide_II_190 : decode b_P_collide_II 190 = .ok (.aload_n 0, 1) := by decide +kernel
theorem d_P_collide_II_191 : decode b_P_collide_II 191 = .ok (.getfield 9, 3) := by decide +kernel
theorem d_P_collide_II_194 : decode b_P_collide_II 194 = .ok (.bipush 32, 2) := by decide +kernel
theorem d_P_collide_II_196 : decode b_P_collide_II 196 = .ok (.iload_n 2, 1) := by decide +kernel
theorem d_P_collide_II_197 : decode b_P_collide_II 197 = .ok (.iadd, 1) := by decide +kernel
theorem d_P_collide_II_198 : decode b_P_collide_II 198 = .ok (.laload, 1) := by decide +kernel
theorem d_P_collide_II_199 : decode b_P_collide_II 199 = .ok (.invokestatic 63, 3) := by decide +kernel
theorem d_P_collide_II_202 : decode b_P_collide_II 202 = .ok (.invokestatic 31, 3) := by decide +kernel
theorem d_P_collide_II_205 : decode b_P_collide_II 205 = .ok (.lstore 17, 2) := by decide +kernel
theorem d_P_collide_II_207 : decode b_P_collide_II 207 = .ok (.ldc2_w 122, 3) := by decide +kernel
theorem d_P_collide_II_210 : decode b_P_collide_II 210 = .ok (.lload 15, 2) := by decide +kernel
theorem d_P_collide_II_212 : decode b_P_collide_II 212 = .ok (.invokestatic 86, 3) := by decide +kernel
theorem d_P_collide_II_215 : decode b_P_collide_II 215 = .ok (.lload 17, 2) := by decide +kernel
theorem d_P_collide_II_217 : decode b_P_collide_II 217 = .ok (.invokestatic 83, 3) := by decide +kernel
theorem d_P_collide_II_220 : decode b_P_collide_II 220 = .ok (.lstore 19, 2) := by decide +kernel
theorem d_P_collide_II_222 : decode b_P_collide_II 222 = .ok (.lload 19, 2) := by decide +kernel
theorem d_P_collide_II_224 : decode b_P_collide_II 224 = .ok (.aload_n 0, 1) := by decide +kernel
theorem d_P_collide_II_225 : decode b_P_collide_II 225 = .ok (.getfield 9, 3) := by decide +kernel
theorem d_P_collide_II_228 : decode b_P_collide_II 228 = .ok (.bipush 32, 2) := by decide +kernel
theorem d_P_collide_II_230 : decode b_P_collide_II 230 = .ok (.iload_n 2, 1) := by decide +kernel
theorem d_P_collide_II_231 : decode b_P_collide_II 231 = .ok (.iadd, 1) := by decide +kernel
theorem d_P_collide_II_232 : decode b_P_collide_II 232 = .ok (.laload, 1) := by decide +kernel
theorem d_P_collide_II_233 : decode b_P_collide_II 233 = .ok (.invokestatic 86, 3) := by decide +kernel
theorem d_P_collide_II_236 : decode b_P_collide_II 236 = .ok (.lstore 21, 2) := by decide +kernel
theorem d_P_collide_II_238 : decode b_P_collide_II 238 = .ok (.lload 19, 2) := by decide +kernel
theorem d_P_collide_II_240 : decode b_P_collide_II 240 = .ok (.aload_n 0, 1) := by decide +kernel
theorem d_P_collide_II_241 : decode b_P_collide_II 241 = .ok (.getfield 9, 3) := by decide +kernel
theorem d_P_collide_II_244 : decode b_P_collide_II 244 = .ok (.bipush 32, 2) := by decide +kernel
theorem d_P_collide_II_246 : decode b_P_collide_II 246 = .ok (.iload_n 1, 1) := by decide +kernel
theorem d_P_collide_II_247 : decode b_P_collide_II 247 = .ok (.iadd, 1) := by decide +kernel
theorem d_P_collide_II_248 : decode b_P_collide_II 248 = .ok (.laload, 1) := by decide +kernel
theorem d_P_collide_II_249 : decode b_P_collide_II 249 = .ok (.invokestatic 86, 3) := by decide +kernel
theorem d_P_collide_II_252 : decode b_P_collide_II 252 = .ok (.lstore 23, 2) := by decide +kernel
theorem d_P_collide_II_254 : decode b_P_collide_II 254 = .ok (.aload_n 0, 1) := by decide +kernel
theorem d_P_collide_II_255 : decode b_P_collide_II 255 = .ok (.getfield 9, 3) := by decide +kernel
theorem d_P_collide_II_258 : decode b_P_collide_II 258 = .ok (.bipush 16, 2) := by decide +kernel
theorem d_P_collide_II_260 : decode b_P_collide_II 260 = .ok (.iload_n 1, 1) := by decide +kernel
theorem d_P_collide_II_261 : decode b_P_collide_II 261 = .ok (.iadd, 1) := by decide +kernel
theorem d_P_collide_II_262 : decode b_P_collide_II 262 = .ok (.aload_n 0, 1) := by decide +kernel
theorem d_P_collide_II_263 : decode b_P_collide_II 263 = .ok (.getfield 9, 3) := by decide +kernel
theorem d_P_collide_II_266 : decode b_P_collide_II 266 = .ok (.bipush 16, 2) := by decide +kernel
theorem d_P_collide_II_268 : decode b_P_collide_II 268 = .ok (.iload_n 1, 1) := by decide +kernel
theorem d_P_collide_II_269 : decode b_P_collide_II 269 = .ok (.iadd, 1) := by decide +kernel
theorem d_P_collide_II_270 : decode b_P_collide_II 270 = .ok (.laload, 1) := by decide +kernel
theorem d_P_collide_II_271 : decode b_P_collide_II 271 = .ok (.lload 21, 2) := by decide +kernel
theorem d_P_collide_II_273 : decode b_P_collide_II 273 = .ok (.lload_n 3, 1) := by decide +kernel
theorem d_P_collide_II_274 : decode b_P_collide_II 274 = .ok (.invokestatic 86, 3) := by decide +kernel
theorem d_P_collide_II_277 : decode b_P_collide_II 277 = .ok (.invokestatic 70, 3) := by decide +kernel
theorem d_P_collide_II_280 : decode b_P_collide_II 280 = .ok (.lastore, 1) := by decide +kernel
theorem d_P_collide_II_281 : decode b_P_collide_II 281 = .ok (.aload_n 0, 1) := by decide +kernel
theorem d_P_collide_II_282 : decode b_P_collide_II 282 = .ok (.getfield 9, 3) := by decide +kernel
theorem d_P_collide_II_285 : decode b_P_collide_II 285 = .ok (.bipush 24, 2) := by decide +kernel
theorem d_P_collide_II_287 : decode b_P_collide_II 287 = .ok (.iload_n 1, 1) := by decide +kernel
theorem d_P_collide_II_288 : decode b_P_collide_II 288 = .ok (.iadd, 1) := by decide +kernel
theorem d_P_collide_II_289 : decode b_P_collide_II 289 = .ok (.aload_n 0, 1) := by decide +kernel
theorem d_P_collide_II_290 : decode b_P_collide_II 290 = .ok (.getfield 9, 3) := by decide +kernel
theorem d_P_collide_II_293 : decode b_P_collide_II 293 = .ok (.bipush 24, 2) := by decide +kernel
theorem d_P_collide_II_295 : decode b_P_collide_II 295 = .ok (.iload_n 1, 1) := by decide +kernel
theorem d_P_collide_II_296 : decode b_P_collide_II 296 = .ok (.iadd, 1) := by decide +kernel
theorem d_P_collide_II_297 : decode b_P_collide_II 297 = .ok (.laload, 1) := by decide +kernel
theorem d_P_collide_II_298 : decode b_P_collide_II 298 = .ok (.lload 21, 2) := by decide +kernel
theorem d_P_collide_II_300 : decode b_P_collide_II 300 = .ok (.lload 5, 2) := by decide +kernel
theorem d_P_collide_II_302 : decode b_P_collide_II 302 = .ok (.invokestatic 86, 3) := by decide +kernel
theorem d_P_collide_II_305 : decode b_P_collide_II 305 = .ok (.invokestatic 70, 3) := by decide +kernel
theorem d_P_collide_II_308 : decode b_P_collide_II 308 = .ok (.lastore, 1) := by decide +kernel
theorem d_P_collide_II_309 : decode b_P_collide_II 309 = .ok (.aload_n 0, 1) := by decide +kernel
theorem d_P_collide_II_310 : decode b_P_collide_II 310 = .ok (.getfield 9, 3) := by decide +kernel
theorem d_P_collide_II_313 : decode b_P_collide_II 313 = .ok (.bipush 16, 2) := by decide +kernel
theorem d_P_collide_II_315 : decode b_P_collide_II 315 = .ok (.iload_n 2, 1) := by decide +kernel
theorem d_P_collide_II_316 : decode b_P_collide_II 316 = .ok (.iadd, 1) := by decide +kernel
theorem d_P_collide_II_317 : decode b_P_collide_II 317 = .ok (.aload_n 0, 1) := by decide +kernel
theorem d_P_collide_II_318 : decode b_P_collide_II 318 = .ok (.getfield 9, 3) := by decide +kernel
theorem d_P_collide_II_321 : decode b_P_collide_II 321 = .ok (.bipush 16, 2) := by decide +kernel
theorem d_P_collide_II_323 : decode b_P_collide_II 323 = .ok (.iload_n 2, 1) := by decide +kernel
theorem d_P_collide_II_324 : decode b_P_collide_II 324 = .ok (.iadd, 1) := by decide +kernel
theorem d_P_collide_II_325 : decode b_P_collide_II 325 = .ok (.laload, 1) := by decide +kernel
theorem d_P_collide_II_326 : decode b_P_collide_II 326 = .ok (.lload 23, 2) := by decide +kernel
theorem d_P_collide_II_328 : decode b_P_collide_II 328 = .ok (.lload_n 3, 1) := by decide +kernel
theorem d_P_collide_II_329 : decode b_P_collide_II 329 = .ok (.invokestatic 86, 3) := by decide +kernel
theorem d_P_collide_II_332 : decode b_P_collide_II 332 = .ok (.invokestatic 63, 3) := by decide +kernel
theorem d_P_collide_II_335 : decode b_P_collide_II 335 = .ok (.lastore, 1) := by decide +kernel
theorem d_P_collide_II_336 : decode b_P_collide_II 336 = .ok (.aload_n 0, 1) := by decide +kernel
theorem d_P_collide_II_337 : decode b_P_collide_II 337 = .ok (.getfield 9, 3) := by decide +kernel
theorem d_P_collide_II_340 : decode b_P_collide_II 340 = .ok (.bipush 24, 2) := by decide +kernel
theorem d_P_collide_II_342 : decode b_P_collide_II 342 = .ok (.iload_n 2, 1) := by decide +kernel
theorem d_P_collide_II_343 : decode b_P_collide_II 343 = .ok (.iadd, 1) := by decide +kernel
theorem d_P_collide_II_344 : decode b_P_collide_II 344 = .ok (.aload_n 0, 1) := by decide +kernel
theorem d_P_collide_II_345 : decode b_P_collide_II 345 = .ok (.getfield 9, 3) := by decide +kernel
theorem d_P_collide_II_348 : decode b_P_collide_II 348 = .ok (.bipush 24, 2) := by decide +kernel
theorem d_P_collide_II_350 : decode b_P_collide_II 350 = .ok (.iload_n 2, 1) := by decide +kernel
theorem d_P_collide_II_351 : decode b_P_collide_II 351 = .ok (.iadd, 1) := by decide +kernel
theorem d_P_collide_II_352 : decode b_P_collide_II 352 = .ok (.laload, 1) := by decide +kernel
theorem d_P_collide_II_353 : decode b_P_collide_II 353 = .ok (.lload 23, 2) := by decide +kernel
theorem d_P_collide_II_355 : decode b_P_collide_II 355 = .ok (.lload 5, 2) := by decide +kernel
theorem d_P_collide_II_357 : decode b_P_collide_II 357 = .ok (.invokestatic 86, 3) := by decide +kernel
theorem d_P_collide_II_360 : decode b_P_collide_II 360 = .ok (.invokestatic 63, 3) := by decide +kernel
theorem d_P_collide_II_363 : decode b_P_collide_II 363 = .ok (.lastore, 1) := by decide +kernel
theorem d_P_collide_II_364 : decode b_P_collide_II 364 = .ok (.return_, 1) := by decide +kernel
def f_P_collide_II (S : CS) (x1 : Int32) (x2 : Int32) : CS :=
  let v1 : Int64 := f_I_difference_JJ (sR S ((0 : Int32) + x2).toNatClampNeg) (sR S ((0 : Int32) + x1).toNatClampNeg)
  let v2 : Int64 := f_I_difference_JJ (sR S ((8 : Int32) + x2).toNatClampNeg) (sR S ((8 : Int32) + x1).toNatClampNeg)
  let v3 : Int64 := f_I_products_JJJJ v1 v1 v2 v2
  let v4 : Int64 := f_I_toFloat_J (f_I_sum_JJ (sR S ((40 : Int32) + x1).toNatClampNeg) (sR S ((40 : Int32) + x2).toNatClampNeg))
  if (f_I_less_JJ v3 (f_I_toFloat_J (f_I_product_JJ v4 v4))) = 0 then
    S
  else
    if (f_I_less_JJ (0 : Int64) v3) = 0 then
      S
    else
      let v7 : Int64 := f_I_difference_JJ (sR S ((16 : Int32) + x1).toNatClampNeg) (sR S ((16 : Int32) + x2).toNatClampNeg)
      let v8 : Int64 := f_I_difference_JJ (sR S ((24 : Int32) + x1).toNatClampNeg) (sR S ((24 : Int32) + x2).toNatClampNeg)
      let v9 : Int64 := f_I_quotient_JJ (f_I_products_JJJJ v7 v1 v8 v2) v3
      if (f_I_less_JJ (0 : Int64) v9) = 0 then
        S
      else
        let v11 : Int64 := f_I_toFloat_J (f_I_sum_JJ (sR S ((32 : Int32) + x1).toNatClampNeg) (sR S ((32 : Int32) + x2).toNatClampNeg))
        let v12 : Int64 := f_I_quotient_JJ (f_I_product_JJ (4611686018427387904 : Int64) v9) v11
        let v13 : Int64 := f_I_product_JJ v12 (sR S ((32 : Int32) + x2).toNatClampNeg)
        let v14 : Int64 := f_I_product_JJ v12 (sR S ((32 : Int32) + x1).toNatClampNeg)
        let S15 : CS := u_sR S (vp_updL (sR S) ((16 : Int32) + x1).toNatClampNeg (f_I_difference_JJ (sR S ((16 : Int32) + x1).toNatClampNeg) (f_I_product_JJ v13 v1)))
        let S16 : CS := u_sR S15 (vp_updL (sR S15) ((24 : Int32) + x1).toNatClampNeg (f_I_difference_JJ (sR S15 ((24 : Int32) + x1).toNatClampNeg) (f_I_product_JJ v13 v2)))
        let S17 : CS := u_sR S16 (vp_updL (sR S16) ((16 : Int32) + x2).toNatClampNeg (f_I_sum_JJ (sR S16 ((16 : Int32) + x2).toNatClampNeg) (f_I_product_JJ v14 v1)))
        let S18 : CS := u_sR S17 (vp_updL (sR S17) ((24 : Int32) + x2).toNatClampNeg (f_I_sum_JJ (sR S17 ((24 : Int32) + x2).toNatClampNeg) (f_I_product_JJ v14 v2)))
        S18
set_option maxHeartbeats 4000000 in
set_option maxRecDepth 100000 in
theorem c_P_collide_II (l : Launch) (dC : Nat → ClassId) (dI : Nat → Nat → Nat) (ad : Nat → Nat) (cJ cI : ClassId) (S : CS) (x1 : Int32) (x2 : Int32) (hk_x1 : vp_in x1 8) (hk_x2 : vp_in x2 8) (sz : Nat) : hMv l y_P_collide_II (gw y_P_collide_II b_P_collide_II 25 none) { frames := 5, cells := 0, slots := 0, locals := 131 } [.ref (ad 1), .int x1, .int x2] (dC, dI) classes (tysJI cJ cI) (fun _ => True) (cW ad cJ cI S) sz (cW ad cJ cI (f_P_collide_II S x1 x2)) := by
  refine Met.ofW (cc := b_P_collide_II) (maxL := 25) (ret := none) (by decide) rfl ?_
  intro p e s m args below meth c s₁ B hml hv
  obtain ⟨rfl, hsz, hP, hK, hD0, hRT⟩ := hv
  have hx := B.exec
  have hb := B.bytes
  have hr := B.returns
  have hts := atoms_spec (ws := (gw y_P_collide_II b_P_collide_II 25 none)) B.pre
  have hown : s.vm.findClass "MotionLab$Plane" = some m.cls := findClass_of_methodNamed B.named
  have hlocks := B.notSynchronized
  subst hsz
  have hD := hD0.self (sz := s.heap.size)
  generalize hAe : va_A (cW ad cJ cI S) s.heap.size = A at hD
  have hA : ∀ q : Nat, s.heap.size ≤ q → A q := fun q h => by rw [← hAe]; exact Or.inr h
  have G : hG (dC, dI) classes A s.heap (cW ad cJ cI S) s.heap [] := ⟨hP, hD, va_S.rf⟩
  have hl := lv_entry ([.ref (ad 1), .int x1, .int x2]) (n := 25) (Nat.le_of_ble_eq_true rfl)
  rw [lg_entry_eq]
  generalize (lg_sl ([.ref (ad 1), .int x1, .int x2]) ++ List.replicate (25 - (lg_sl ([.ref (ad 1), .int x1, .int x2])).length) Slot.unset).toArray = ls at hl ⊢
  have hl : lv_has ls 25 [(0, .ref (ad 1)), (1, .int x1), (2, .int x2)] := hl
  refine lv_aload_n hx hb d_P_collide_II_0 rfl (lv_at hl 0 rfl) ?_
  refine va_get (D := (dC, dI)) (ci := 1) (v := .ref (ad 3)) (C := R_P) (T := F_P) (N := 3) hx hb hts (fun w h => gm (i_P w h)) hown hK G.1 1 rfl rfl 0 (by decide) (hts _ (gm tw_46)) (fun _ h9 => h9) rfl d_P_collide_II_1 ?_
  refine lv_iconst (v := 0) hx hb d_P_collide_II_4 (by decide) ?_
  refine lv_iload_n hx hb d_P_collide_II_5 rfl (lv_at hl 2 rfl) ?_
  refine lv_iadd hx hb d_P_collide_II_6 ?_
  refine va_lald hx hb hK G.1 3 0 rfl rfl (in_al hk_x2 (by decide)) d_P_collide_II_7 ?_
  refine lv_aload_n hx hb d_P_collide_II_8 rfl (lv_at hl 0 rfl) ?_
  refine va_get (D := (dC, dI)) (ci := 1) (v := .ref (ad 3)) (C := R_P) (T := F_P) (N := 3) hx hb hts (fun w h => gm (i_P w h)) hown hK G.1 1 rfl rfl 0 (by decide) (hts _ (gm tw_46)) (fun _ h9 => h9) rfl d_P_collide_II_9 ?_
  refine lv_iconst (v := 0) hx hb d_P_collide_II_12 (by decide) ?_
  refine lv_iload_n hx hb d_P_collide_II_13 rfl (lv_at hl 1 rfl) ?_
  refine lv_iadd hx hb d_P_collide_II_14 ?_
  refine va_lald hx hb hK G.1 3 0 rfl rfl (in_al hk_x1 (by decide)) d_P_collide_II_15 ?_
  refine pu_l (As := [.long (sR S ((0 : Int32) + x2).toNatClampNeg), .long (sR S ((0 : Int32) + x1).toNatClampNeg)]) (rest := []) ⟨hx, hb, hml, hown, hts⟩ (c_I_difference_JJ l _ (sR S ((0 : Int32) + x2).toNatClampNeg) (sR S ((0 : Int32) + x1).toNatClampNeg)) pu_pre (gw_call (k := 2) hts tw_188 tw_189 tw_5 tw_190 (by decide +kernel) rfl rfl ⟨Nat.le_of_ble_eq_true rfl, Nat.le_of_ble_eq_true rfl⟩) rfl hl.1 rfl (Nat.le_of_ble_eq_true rfl) ⟨Nat.zero_le _, Nat.zero_le _⟩ d_P_collide_II_16 ?_
  refine lv_topl (fun v1 e1 => ?_)
  refine lv_lstore_n (lv' := [(3, .long v1), (0, .ref (ad 1)), (1, .int x1), (2, .int x2)]) hx hb d_P_collide_II_19 rfl hl (by decide) rfl (fun ls hl => ?_)
  refine lv_aload_n hx hb d_P_collide_II_20 rfl (lv_at hl 1 rfl) ?_
  refine va_get (D := (dC, dI)) (ci := 1) (v := .ref (ad 3)) (C := R_P) (T := F_P) (N := 3) hx hb hts (fun w h => gm (i_P w h)) hown hK G.1 1 rfl rfl 0 (by decide) (hts _ (gm tw_46)) (fun _ h9 => h9) rfl d_P_collide_II_21 ?_
  refine lv_bipush (v := (8 : Int32)) hx hb d_P_collide_II_24 (by decide) ?_
  refine lv_iload_n hx hb d_P_collide_II_26 rfl (lv_at hl 3 rfl) ?_
  refine lv_iadd hx hb d_P_collide_II_27 ?_
  refine va_lald hx hb hK G.1 3 0 rfl rfl (in_al hk_x2 (by decide)) d_P_collide_II_28 ?_
  refine lv_aload_n hx hb d_P_collide_II_29 rfl (lv_at hl 1 rfl) ?_
  refine va_get (D := (dC, dI)) (ci := 1) (v := .ref (ad 3)) (C := R_P) (T := F_P) (N := 3) hx hb hts (fun w h => gm (i_P w h)) hown hK G.1 1 rfl rfl 0 (by decide) (hts _ (gm tw_46)) (fun _ h9 => h9) rfl d_P_collide_II_30 ?_
  refine lv_bipush (v := (8 : Int32)) hx hb d_P_collide_II_33 (by decide) ?_
  refine lv_iload_n hx hb d_P_collide_II_35 rfl (lv_at hl 2 rfl) ?_
  refine lv_iadd hx hb d_P_collide_II_36 ?_
  refine va_lald hx hb hK G.1 3 0 rfl rfl (in_al hk_x1 (by decide)) d_P_collide_II_37 ?_
  refine pu_l (As := [.long (sR S ((8 : Int32) + x2).toNatClampNeg), .long (sR S ((8 : Int32) + x1).toNatClampNeg)]) (rest := []) ⟨hx, hb, hml, hown, hts⟩ (c_I_difference_JJ l _ (sR S ((8 : Int32) + x2).toNatClampNeg) (sR S ((8 : Int32) + x1).toNatClampNeg)) pu_pre (gw_call (k := 2) hts tw_188 tw_189 tw_5 tw_190 (by decide +kernel) rfl rfl ⟨Nat.le_of_ble_eq_true rfl, Nat.le_of_ble_eq_true rfl⟩) rfl hl.1 rfl (Nat.le_of_ble_eq_true rfl) ⟨Nat.zero_le _, Nat.zero_le _⟩ d_P_collide_II_38 ?_
  refine lv_topl (fun v2 e2 => ?_)
  refine lv_lstore (lv' := [(5, .long v2), (3, .long v1), (0, .ref (ad 1)), (1, .int x1), (2, .int x2)]) hx hb d_P_collide_II_41 hl (by decide) rfl (fun ls hl => ?_)
  refine lv_lload_n hx hb d_P_collide_II_43 rfl (lv_at hl 1 rfl) ?_
  refine lv_lload_n hx hb d_P_collide_II_44 rfl (lv_at hl 1 rfl) ?_
  refine lv_lload hx hb d_P_collide_II_45 (lv_at hl 0 rfl) ?_
  refine lv_lload hx hb d_P_collide_II_47 (lv_at hl 0 rfl) ?_
  refine pu_l (As := [.long v1, .long v1, .long v2, .long v2]) (rest := []) ⟨hx, hb, hml, hown, hts⟩ (c_I_products_JJJJ l _ v1 v1 v2 v2) pu_pre (gw_call (k := 4) hts tw_215 tw_216 tw_5 tw_217 (by decide +kernel) rfl rfl ⟨Nat.le_of_ble_eq_true rfl, Nat.le_of_ble_eq_true rfl⟩) rfl hl.1 rfl (Nat.le_of_ble_eq_true rfl) ⟨Nat.zero_le _, Nat.zero_le _⟩ d_P_collide_II_49 ?_
  refine lv_topl (fun v3 e3 => ?_)
  refine lv_lstore (lv' := [(7, .long v3), (5, .long v2), (3, .long v1), (0, .ref (ad 1)), (1, .int x1), (2, .int x2)]) hx hb d_P_collide_II_52 hl (by decide) rfl (fun ls hl => ?_)
  refine lv_aload_n hx hb d_P_collide_II_54 rfl (lv_at hl 3 rfl) ?_
  refine va_get (D := (dC, dI)) (ci := 1) (v := .ref (ad 3)) (C := R_P) (T := F_P) (N := 3) hx hb hts (fun w h => gm (i_P w h)) hown hK G.1 1 rfl rfl 0 (by decide) (hts _ (gm tw_46)) (fun _ h9 => h9) rfl d_P_collide_II_55 ?_
  refine lv_bipush (v := (40 : Int32)) hx hb d_P_collide_II_58 (by decide) ?_
  refine lv_iload_n hx hb d_P_collide_II_60 rfl (lv_at hl 4 rfl) ?_
  refine lv_iadd hx hb d_P_collide_II_61 ?_
  refine va_lald hx hb hK G.1 3 0 rfl rfl (in_al hk_x1 (by decide)) d_P_collide_II_62 ?_
  refine lv_aload_n hx hb d_P_collide_II_63 rfl (lv_at hl 3 rfl) ?_
  refine va_get (D := (dC, dI)) (ci := 1) (v := .ref (ad 3)) (C := R_P) (T := F_P) (N := 3) hx hb hts (fun w h => gm (i_P w h)) hown hK G.1 1 rfl rfl 0 (by decide) (hts _ (gm tw_46)) (fun _ h9 => h9) rfl d_P_collide_II_64 ?_
  refine lv_bipush (v := (40 : Int32)) hx hb d_P_collide_II_67 (by decide) ?_
  refine lv_iload_n hx hb d_P_collide_II_69 rfl (lv_at hl 5 rfl) ?_
  refine lv_iadd hx hb d_P_collide_II_70 ?_
  refine va_lald hx hb hK G.1 3 0 rfl rfl (in_al hk_x2 (by decide)) d_P_collide_II_71 ?_
  refine pu_l (As := [.long (sR S ((40 : Int32) + x1).toNatClampNeg), .long (sR S ((40 : Int32) + x2).toNatClampNeg)]) (rest := []) ⟨hx, hb, hml, hown, hts⟩ (c_I_sum_JJ l _ (sR S ((40 : Int32) + x1).toNatClampNeg) (sR S ((40 : Int32) + x2).toNatClampNeg)) pu_pre (gw_call (k := 2) hts tw_249 tw_192 tw_5 tw_193 (by decide +kernel) rfl rfl ⟨Nat.le_of_ble_eq_true rfl, Nat.le_of_ble_eq_true rfl⟩) rfl hl.1 rfl (Nat.le_of_ble_eq_true rfl) ⟨Nat.zero_le _, Nat.zero_le _⟩ d_P_collide_II_72 ?_
  refine pu_l (As := [.long (f_I_sum_JJ (sR S ((40 : Int32) + x1).toNatClampNeg) (sR S ((40 : Int32) + x2).toNatClampNeg))]) (rest := []) ⟨hx, hb, hml, hown, hts⟩ (c_I_toFloat_J l _ (f_I_sum_JJ (sR S ((40 : Int32) + x1).toNatClampNeg) (sR S ((40 : Int32) + x2).toNatClampNeg))) pu_pre (gw_call (k := 1) hts tw_78 tw_79 tw_5 tw_80 (by decide +kernel) rfl rfl ⟨Nat.le_of_ble_eq_true rfl, Nat.le_of_ble_eq_true rfl⟩) rfl hl.1 rfl (Nat.le_of_ble_eq_true rfl) ⟨Nat.zero_le _, Nat.zero_le _⟩ d_P_collide_II_75 ?_
  refine lv_topl (fun v4 e4 => ?_)
  refine lv_lstore (lv' := [(9, .long v4), (7, .long v3), (5, .long v2), (3, .long v1), (0, .ref (ad 1)), (1, .int x1), (2, .int x2)]) hx hb d_P_collide_II_78 hl (by decide) rfl (fun ls hl => ?_)
  refine lv_lload hx hb d_P_collide_II_80 (lv_at hl 1 rfl) ?_
  refine lv_lload hx hb d_P_collide_II_82 (lv_at hl 0 rfl) ?_
  refine lv_lload hx hb d_P_collide_II_84 (lv_at hl 0 rfl) ?_
  refine pu_l (As := [.long v4, .long v4]) (rest := [.long v3]) ⟨hx, hb, hml, hown, hts⟩ (c_I_product_JJ l _ v4 v4) pu_pre (gw_call (k := 2) hts tw_174 tw_175 tw_5 tw_176 (by decide +kernel) rfl rfl ⟨Nat.le_of_ble_eq_true rfl, Nat.le_of_ble_eq_true rfl⟩) rfl hl.1 rfl (Nat.le_of_ble_eq_true rfl) ⟨Nat.zero_le _, Nat.zero_le _⟩ d_P_collide_II_86 ?_
  refine pu_l (As := [.long (f_I_product_JJ v4 v4)]) (rest := [.long v3]) ⟨hx, hb, hml, hown, hts⟩ (c_I_toFloat_J l _ (f_I_product_JJ v4 v4)) pu_pre (gw_call (k := 1) hts tw_78 tw_79 tw_5 tw_80 (by decide +kernel) rfl rfl ⟨Nat.le_of_ble_eq_true rfl, Nat.le_of_ble_eq_true rfl⟩) rfl hl.1 rfl (Nat.le_of_ble_eq_true rfl) ⟨Nat.zero_le _, Nat.zero_le _⟩ d_P_collide_II_89 ?_
  refine pu_i (As := [.long v3, .long (f_I_toFloat_J (f_I_product_JJ v4 v4))]) (rest := []) ⟨hx, hb, hml, hown, hts⟩ (c_I_less_JJ l _ v3 (f_I_toFloat_J (f_I_product_JJ v4 v4))) pu_pre (gw_call (k := 2) hts tw_230 tw_231 tw_5 tw_232 (by decide +kernel) rfl rfl ⟨Nat.le_of_ble_eq_true rfl, Nat.le_of_ble_eq_true rfl⟩) rfl hl.1 rfl (Nat.le_of_ble_eq_true rfl) ⟨Nat.zero_le _, Nat.zero_le _⟩ d_P_collide_II_92 ?_
  refine lv_if_eq (tgt := 107) hx hb d_P_collide_II_95 (by decide) (fun c5 => ?_) (fun c5 => ?_)
  · exact hg_vret hx hb hr hlocks hK hAe G (by have qe1 := e1.symm; have qe2 := e2.symm; have qe3 := e3.symm; have qe4 := e4.symm; subst qe1 qe2 qe3 qe4; have e9 : f_P_collide_II S x1 x2 = _ := (if_pos c5); exact Eq.symm (congrArg (cW ad cJ cI) e9)) d_P_collide_II_107
  · refine lv_lconst (v := (0 : Int64)) hx hb d_P_collide_II_98 (by decide) ?_
    refine lv_lload hx hb d_P_collide_II_99 (lv_at hl 1 rfl) ?_
    refine pu_i (As := [.long (0 : Int64), .long v3]) (rest := []) ⟨hx, hb, hml, hown, hts⟩ (c_I_less_JJ l _ (0 : Int64) v3) pu_pre (gw_call (k := 2) hts tw_230 tw_231 tw_5 tw_232 (by decide +kernel) rfl rfl ⟨Nat.le_of_ble_eq_true rfl, Nat.le_of_ble_eq_true rfl⟩) rfl hl.1 rfl (Nat.le_of_ble_eq_true rfl) ⟨Nat.zero_le _, Nat.zero_le _⟩ d_P_collide_II_101 ?_
    refine lv_if_ne (tgt := 108) hx hb d_P_collide_II_104 (by decide) (fun c6 => ?_) (fun c6 => ?_)
    · refine lv_aload_n hx hb d_P_collide_II_108 rfl (lv_at hl 4 rfl) ?_
      refine va_get (D := (dC, dI)) (ci := 1) (v := .ref (ad 3)) (C := R_P) (T := F_P) (N := 3) hx hb hts (fun w h => gm (i_P w h)) hown hK G.1 1 rfl rfl 0 (by decide) (hts _ (gm tw_46)) (fun _ h9 => h9) rfl d_P_collide_II_109 ?_
      refine lv_bipush (v := (16 : Int32)) hx hb d_P_collide_II_112 (by decide) ?_
      refine lv_iload_n hx hb d_P_collide_II_114 rfl (lv_at hl 5 rfl) ?_
      refine lv_iadd hx hb d_P_collide_II_115 ?_
      refine va_lald hx hb hK G.1 3 0 rfl rfl (in_al hk_x1 (by decide)) d_P_collide_II_116 ?_
      refine lv_aload_n hx hb d_P_collide_II_117 rfl (lv_at hl 4 rfl) ?_
      refine va_get (D := (dC, dI)) (ci := 1) (v := .ref (ad 3)) (C := R_P) (T := F_P) (N := 3) hx hb hts (fun w h => gm (i_P w h)) hown hK G.1 1 rfl rfl 0 (by decide) (hts _ (gm tw_46)) (fun _ h9 => h9) rfl d_P_collide_II_118 ?_
      refine lv_bipush (v := (16 : Int32)) hx hb d_P_collide_II_121 (by decide) ?_
      refine lv_iload_n hx hb d_P_collide_II_123 rfl (lv_at hl 6 rfl) ?_
      refine lv_iadd hx hb d_P_collide_II_124 ?_
      refine va_lald hx hb hK G.1 3 0 rfl rfl (in_al hk_x2 (by decide)) d_P_collide_II_125 ?_
      refine pu_l (As := [.long (sR S ((16 : Int32) + x1).toNatClampNeg), .long (sR S ((16 : Int32) + x2).toNatClampNeg)]) (rest := []) ⟨hx, hb, hml, hown, hts⟩ (c_I_difference_JJ l _ (sR S ((16 : Int32) + x1).toNatClampNeg) (sR S ((16 : Int32) + x2).toNatClampNeg)) pu_pre (gw_call (k := 2) hts tw_188 tw_189 tw_5 tw_190 (by decide +kernel) rfl rfl ⟨Nat.le_of_ble_eq_true rfl, Nat.le_of_ble_eq_true rfl⟩) rfl hl.1 rfl (Nat.le_of_ble_eq_true rfl) ⟨Nat.zero_le _, Nat.zero_le _⟩ d_P_collide_II_126 ?_
      refine lv_topl (fun v7 e7 => ?_)
      refine lv_lstore (lv' := [(11, .long v7), (9, .long v4), (7, .long v3), (5, .long v2), (3, .long v1), (0, .ref (ad 1)), (1, .int x1), (2, .int x2)]) hx hb d_P_collide_II_129 hl (by decide) rfl (fun ls hl => ?_)
      refine lv_aload_n hx hb d_P_collide_II_131 rfl (lv_at hl 5 rfl) ?_
      refine va_get (D := (dC, dI)) (ci := 1) (v := .ref (ad 3)) (C := R_P) (T := F_P) (N := 3) hx hb hts (fun w h => gm (i_P w h)) hown hK G.1 1 rfl rfl 0 (by decide) (hts _ (gm tw_46)) (fun _ h9 => h9) rfl d_P_collide_II_132 ?_
      refine lv_bipush (v := (24 : Int32)) hx hb d_P_collide_II_135 (by decide) ?_
      refine lv_iload_n hx hb d_P_collide_II_137 rfl (lv_at hl 6 rfl) ?_
      refine lv_iadd hx hb d_P_collide_II_138 ?_
      refine va_lald hx hb hK G.1 3 0 rfl rfl (in_al hk_x1 (by decide)) d_P_collide_II_139 ?_
      refine lv_aload_n hx hb d_P_collide_II_140 rfl (lv_at hl 5 rfl) ?_
      refine va_get (D := (dC, dI)) (ci := 1) (v := .ref (ad 3)) (C := R_P) (T := F_P) (N := 3) hx hb hts (fun w h => gm (i_P w h)) hown hK G.1 1 rfl rfl 0 (by decide) (hts _ (gm tw_46)) (fun _ h9 => h9) rfl d_P_collide_II_141 ?_
      refine lv_bipush (v := (24 : Int32)) hx hb d_P_collide_II_144 (by decide) ?_
      refine lv_iload_n hx hb d_P_collide_II_146 rfl (lv_at hl 7 rfl) ?_
      refine lv_iadd hx hb d_P_collide_II_147 ?_
      refine va_lald hx hb hK G.1 3 0 rfl rfl (in_al hk_x2 (by decide)) d_P_collide_II_148 ?_
      refine pu_l (As := [.long (sR S ((24 : Int32) + x1).toNatClampNeg), .long (sR S ((24 : Int32) + x2).toNatClampNeg)]) (rest := []) ⟨hx, hb, hml, hown, hts⟩ (c_I_difference_JJ l _ (sR S ((24 : Int32) + x1).toNatClampNeg) (sR S ((24 : Int32) + x2).toNatClampNeg)) pu_pre (gw_call (k := 2) hts tw_188 tw_189 tw_5 tw_190 (by decide +kernel) rfl rfl ⟨Nat.le_of_ble_eq_true rfl, Nat.le_of_ble_eq_true rfl⟩) rfl hl.1 rfl (Nat.le_of_ble_eq_true rfl) ⟨Nat.zero_le _, Nat.zero_le _⟩ d_P_collide_II_149 ?_
      refine lv_topl (fun v8 e8 => ?_)
      refine lv_lstore (lv' := [(13, .long v8), (11, .long v7), (9, .long v4), (7, .long v3), (5, .long v2), (3, .long v1), (0, .ref (ad 1)), (1, .int x1), (2, .int x2)]) hx hb d_P_collide_II_152 hl (by decide) rfl (fun ls hl => ?_)
      refine lv_lload hx hb d_P_collide_II_154 (lv_at hl 1 rfl) ?_
      refine lv_lload_n hx hb d_P_collide_II_156 rfl (lv_at hl 5 rfl) ?_
      refine lv_lload hx hb d_P_collide_II_157 (lv_at hl 0 rfl) ?_
      refine lv_lload hx hb d_P_collide_II_159 (lv_at hl 4 rfl) ?_
      refine pu_l (As := [.long v7, .long v1, .long v8, .long v2]) (rest := []) ⟨hx, hb, hml, hown, hts⟩ (c_I_products_JJJJ l _ v7 v1 v8 v2) pu_pre (gw_call (k := 4) hts tw_215 tw_216 tw_5 tw_217 (by decide +kernel) rfl rfl ⟨Nat.le_of_ble_eq_true rfl, Nat.le_of_ble_eq_true rfl⟩) rfl hl.1 rfl (Nat.le_of_ble_eq_true rfl) ⟨Nat.zero_le _, Nat.zero_le _⟩ d_P_collide_II_161 ?_
      refine lv_lload hx hb d_P_collide_II_164 (lv_at hl 3 rfl) ?_
      refine pu_l (As := [.long (f_I_products_JJJJ v7 v1 v8 v2), .long v3]) (rest := []) ⟨hx, hb, hml, hown, hts⟩ (c_I_quotient_JJ l _ (f_I_products_JJJJ v7 v1 v8 v2) v3) pu_pre (gw_call (k := 2) hts tw_248 tw_224 tw_5 tw_225 (by decide +kernel) rfl rfl ⟨Nat.le_of_ble_eq_true rfl, Nat.le_of_ble_eq_true rfl⟩) rfl hl.1 rfl (Nat.le_of_ble_eq_true rfl) ⟨Nat.zero_le _, Nat.zero_le _⟩ d_P_collide_II_166 ?_
      refine lv_topl (fun v9 e9 => ?_)
      refine lv_lstore (lv' := [(15, .long v9), (13, .long v8), (11, .long v7), (9, .long v4), (7, .long v3), (5, .long v2), (3, .long v1), (0, .ref (ad 1)), (1, .int x1), (2, .int x2)]) hx hb d_P_collide_II_169 hl (by decide) rfl (fun ls hl => ?_)
      refine lv_lconst (v := (0 : Int64)) hx hb d_P_collide_II_171 (by decide) ?_
      refine lv_lload hx hb d_P_collide_II_172 (lv_at hl 0 rfl) ?_
      refine pu_i (As := [.long (0 : Int64), .long v9]) (rest := []) ⟨hx, hb, hml, hown, hts⟩ (c_I_less_JJ l _ (0 : Int64) v9) pu_pre (gw_call (k := 2) hts tw_230 tw_231 tw_5 tw_232 (by decide +kernel) rfl rfl ⟨Nat.le_of_ble_eq_true rfl, Nat.le_of_ble_eq_true rfl⟩) rfl hl.1 rfl (Nat.le_of_ble_eq_true rfl) ⟨Nat.zero_le _, Nat.zero_le _⟩ d_P_collide_II_174 ?_
      refine lv_if_ne (tgt := 181) hx hb d_P_collide_II_177 (by decide) (fun c10 => ?_) (fun c10 => ?_)
      · refine lv_aload_n hx hb d_P_collide_II_181 rfl (lv_at hl 7 rfl) ?_
        refine va_get (D := (dC, dI)) (ci := 1) (v := .ref (ad 3)) (C := R_P) (T := F_P) (N := 3) hx hb hts (fun w h => gm (i_P w h)) hown hK G.1 1 rfl rfl 0 (by decide) (hts _ (gm tw_46)) (fun _ h9 => h9) rfl d_P_collide_II_182 ?_
        refine lv_bipush (v := (32 : Int32)) hx hb d_P_collide_II_185 (by decide) ?_
        refine lv_iload_n hx hb d_P_collide_II_187 rfl (lv_at hl 8 rfl) ?_
        refine lv_iadd hx hb d_P_collide_II_188 ?_
        refine va_lald hx hb hK G.1 3 0 rfl rfl (in_al hk_x1 (by decide)) d_P_collide_II_189 ?_
        refine lv_aload_n hx hb d_P_collide_II_190 rfl (lv_at hl 7 rfl) ?_
        refine va_get (D := (dC, dI)) (ci := 1) (v := .ref (ad 3)) (C := R_P) (T := F_P) (N := 3) hx hb hts (fun w h => gm (i_P w h)) hown hK G.1 1 rfl rfl 0 (by decide) (hts _ (gm tw_46)) (fun _ h9 => h9) rfl d_P_collide_II_191 ?_
        refine lv_bipush (v := (32 : Int32)) hx hb d_P_collide_II_194 (by decide) ?_
        refine lv_iload_n hx hb d_P_collide_II_196 rfl (lv_at hl 9 rfl) ?_
        refine lv_iadd hx hb d_P_collide_II_197 ?_
        refine va_lald hx hb hK G.1 3 0 rfl rfl (in_al hk_x2 (by decide)) d_P_collide_II_198 ?_
        refine pu_l (As := [.long (sR S ((32 : Int32) + x1).toNatClampNeg), .long (sR S ((32 : Int32) + x2).toNatClampNeg)]) (rest := []) ⟨hx, hb, hml, hown, hts⟩ (c_I_sum_JJ l _ (sR S ((32 : Int32) + x1).toNatClampNeg) (sR S ((32 : Int32) + x2).toNatClampNeg)) pu_pre (gw_call (k := 2) hts tw_249 tw_192 tw_5 tw_193 (by decide +kernel) rfl rfl ⟨Nat.le_of_ble_eq_true rfl, Nat.le_of_ble_eq_true rfl⟩) rfl hl.1 rfl (Nat.le_of_ble_eq_true rfl) ⟨Nat.zero_le _, Nat.zero_le _⟩ d_P_collide_II_199 ?_
        refine pu_l (As := [.long (f_I_sum_JJ (sR S ((32 : Int32) + x1).toNatClampNeg) (sR S ((32 : Int32) + x2).toNatClampNeg))]) (rest := []) ⟨hx, hb, hml, hown, hts⟩ (c_I_toFloat_J l _ (f_I_sum_JJ (sR S ((32 : Int32) + x1).toNatClampNeg) (sR S ((32 : Int32) + x2).toNatClampNeg))) pu_pre (gw_call (k := 1) hts tw_78 tw_79 tw_5 tw_80 (by decide +kernel) rfl rfl ⟨Nat.le_of_ble_eq_true rfl, Nat.le_of_ble_eq_true rfl⟩) rfl hl.1 rfl (Nat.le_of_ble_eq_true rfl) ⟨Nat.zero_le _, Nat.zero_le _⟩ d_P_collide_II_202 ?_
        refine lv_topl (fun v11 e11 => ?_)
        refine lv_lstore (lv' := [(17, .long v11), (15, .long v9), (13, .long v8), (11, .long v7), (9, .long v4), (7, .long v3), (5, .long v2), (3, .long v1), (0, .ref (ad 1)), (1, .int x1), (2, .int x2)]) hx hb d_P_collide_II_205 hl (by decide) rfl (fun ls hl => ?_)
        refine lv_ldc2 (v := (4611686018427387904 : Int64)) hx hb hown (hts _ (gm tw_269)) d_P_collide_II_207 ?_
        refine lv_lload hx hb d_P_collide_II_210 (lv_at hl 1 rfl) ?_
        refine pu_l (As := [.long (4611686018427387904 : Int64), .long v9]) (rest := []) ⟨hx, hb, hml, hown, hts⟩ (c_I_product_JJ l _ (4611686018427387904 : Int64) v9) pu_pre (gw_call (k := 2) hts tw_174 tw_175 tw_5 tw_176 (by decide +kernel) rfl rfl ⟨Nat.le_of_ble_eq_true rfl, Nat.le_of_ble_eq_true rfl⟩) rfl hl.1 rfl (Nat.le_of_ble_eq_true rfl) ⟨Nat.zero_le _, Nat.zero_le _⟩ d_P_collide_II_212 ?_
        refine lv_lload hx hb d_P_collide_II_215 (lv_at hl 0 rfl) ?_
        refine pu_l (As := [.long (f_I_product_JJ (4611686018427387904 : Int64) v9), .long v11]) (rest := []) ⟨hx, hb, hml, hown, hts⟩ (c_I_quotient_JJ l _ (f_I_product_JJ (4611686018427387904 : Int64) v9) v11) pu_pre (gw_call (k := 2) hts tw_248 tw_224 tw_5 tw_225 (by decide +kernel) rfl rfl ⟨Nat.le_of_ble_eq_true rfl, Nat.le_of_ble_eq_true rfl⟩) rfl hl.1 rfl (Nat.le_of_ble_eq_true rfl) ⟨Nat.zero_le _, Nat.zero_le _⟩ d_P_collide_II_217 ?_
        refine lv_topl (fun v12 e12 => ?_)
        refine lv_lstore (lv' := [(19, .long v12), (17, .long v11), (15, .long v9), (13, .long v8), (11, .long v7), (9, .long v4), (7, .long v3), (5, .long v2), (3, .long v1), (0, .ref (ad 1)), (1, .int x1), (2, .int x2)]) hx hb d_P_collide_II_220 hl (by decide) rfl (fun ls hl => ?_)
        refine lv_lload hx hb d_P_collide_II_222 (lv_at hl 0 rfl) ?_
        refine lv_aload_n hx hb d_P_collide_II_224 rfl (lv_at hl 9 rfl) ?_
        refine va_get (D := (dC, dI)) (ci := 1) (v := .ref (ad 3)) (C := R_P) (T := F_P) (N := 3) hx hb hts (fun w h => gm (i_P w h)) hown hK G.1 1 rfl rfl 0 (by decide) (hts _ (gm tw_46)) (fun _ h9 => h9) rfl d_P_collide_II_225 ?_
        refine lv_bipush (v := (32 : Int32)) hx hb d_P_collide_II_228 (by decide) ?_
        refine lv_iload_n hx hb d_P_collide_II_230 rfl (lv_at hl 11 rfl) ?_
        refine lv_iadd hx hb d_P_collide_II_231 ?_
        refine va_lald hx hb hK G.1 3 0 rfl rfl (in_al hk_x2 (by decide)) d_P_collide_II_232 ?_
        refine pu_l (As := [.long v12, .long (sR S ((32 : Int32) + x2).toNatClampNeg)]) (rest := []) ⟨hx, hb, hml, hown, hts⟩ (c_I_product_JJ l _ v12 (sR S ((32 : Int32) + x2).toNatClampNeg)) pu_pre (gw_call (k := 2) hts tw_174 tw_175 tw_5 tw_176 (by decide +kernel) rfl rfl ⟨Nat.le_of_ble_eq_true rfl, Nat.le_of_ble_eq_true rfl⟩) rfl hl.1 rfl (Nat.le_of_ble_eq_true rfl) ⟨Nat.zero_le _, Nat.zero_le _⟩ d_P_collide_II_233 ?_
        refine lv_topl (fun v13 e13 => ?_)
        refine lv_lstore (lv' := [(21, .long v13), (19, .long v12), (17, .long v11), (15, .long v9), (13, .long v8), (11, .long v7), (9, .long v4), (7, .long v3), (5, .long v2), (3, .long v1), (0, .ref (ad 1)), (1, .int x1), (2, .int x2)]) hx hb d_P_collide_II_236 hl (by decide) rfl (fun ls hl => ?_)
        refine lv_lload hx hb d_P_collide_II_238 (lv_at hl 1 rfl) ?_
        refine lv_aload_n hx hb d_P_collide_II_240 rfl (lv_at hl 10 rfl) ?_
        refine va_get (D := (dC, dI)) (ci := 1) (v := .ref (ad 3)) (C := R_P) (T := F_P) (N := 3) hx hb hts (fun w h => gm (i_P w h)) hown hK G.1 1 rfl rfl 0 (by decide) (hts _ (gm tw_46)) (fun _ h9 => h9) rfl d_P_collide_II_241 ?_
        refine lv_bipush (v := (32 : Int32)) hx hb d_P_collide_II_244 (by decide) ?_
        refine lv_iload_n hx hb d_P_collide_II_246 rfl (lv_at hl 11 rfl) ?_
        refine lv_iadd hx hb d_P_collide_II_247 ?_
        refine va_lald hx hb hK G.1 3 0 rfl rfl (in_al hk_x1 (by decide)) d_P_collide_II_248 ?_
        refine pu_l (As := [.long v12, .long (sR S ((32 : Int32) + x1).toNatClampNeg)]) (rest := []) ⟨hx, hb, hml, hown, hts⟩ (c_I_product_JJ l _ v12 (sR S ((32 : Int32) + x1).toNatClampNeg)) pu_pre (gw_call (k := 2) hts tw_174 tw_175 tw_5 tw_176 (by decide +kernel) rfl rfl ⟨Nat.le_of_ble_eq_true rfl, Nat.le_of_ble_eq_true rfl⟩) rfl hl.1 rfl (Nat.le_of_ble_eq_true rfl) ⟨Nat.zero_le _, Nat.zero_le _⟩ d_P_collide_II_249 ?_
        refine lv_topl (fun v14 e14 => ?_)
        refine lv_lstore (lv' := [(23, .long v14), (21, .long v13), (19, .long v12), (17, .long v11), (15, .long v9), (13, .long v8), (11, .long v7), (9, .long v4), (7, .long v3), (5, .long v2), (3, .long v1), (0, .ref (ad 1)), (1, .int x1), (2, .int x2)]) hx hb d_P_collide_II_252 hl (by decide) rfl (fun ls hl => ?_)
        refine lv_aload_n hx hb d_P_collide_II_254 rfl (lv_at hl 11 rfl) ?_
        refine va_get (D := (dC, dI)) (ci := 1) (v := .ref (ad 3)) (C := R_P) (T := F_P) (N := 3) hx hb hts (fun w h => gm (i_P w h)) hown hK G.1 1 rfl rfl 0 (by decide) (hts _ (gm tw_46)) (fun _ h9 => h9) rfl d_P_collide_II_255 ?_
        refine lv_bipush (v := (16 : Int32)) hx hb d_P_collide_II_258 (by decide) ?_
        refine lv_iload_n hx hb d_P_collide_II_260 rfl (lv_at hl 12 rfl) ?_
        refine lv_iadd hx hb d_P_collide_II_261 ?_
        refine lv_aload_n hx hb d_P_collide_II_262 rfl (lv_at hl 11 rfl) ?_
        refine va_get (D := (dC, dI)) (ci := 1) (v := .ref (ad 3)) (C := R_P) (T := F_P) (N := 3) hx hb hts (fun w h => gm (i_P w h)) hown hK G.1 1 rfl rfl 0 (by decide) (hts _ (gm tw_46)) (fun _ h9 => h9) rfl d_P_collide_II_263 ?_
        refine lv_bipush (v := (16 : Int32)) hx hb d_P_collide_II_266 (by decide) ?_
        refine lv_iload_n hx hb d_P_collide_II_268 rfl (lv_at hl 12 rfl) ?_
        refine lv_iadd hx hb d_P_collide_II_269 ?_
        refine va_lald hx hb hK G.1 3 0 rfl rfl (in_al hk_x1 (by decide)) d_P_collide_II_270 ?_
        refine lv_lload hx hb d_P_collide_II_271 (lv_at hl 1 rfl) ?_
        refine lv_lload_n hx hb d_P_collide_II_273 rfl (lv_at hl 10 rfl) ?_
        refine pu_l (As := [.long v13, .long v1]) (rest := [.long (sR S ((16 : Int32) + x1).toNatClampNeg), .int ((16 : Int32) + x1), .ref (ad 3)]) ⟨hx, hb, hml, hown, hts⟩ (c_I_product_JJ l _ v13 v1) pu_pre (gw_call (k := 2) hts tw_174 tw_175 tw_5 tw_176 (by decide +kernel) rfl rfl ⟨Nat.le_of_ble_eq_true rfl, Nat.le_of_ble_eq_true rfl⟩) rfl hl.1 rfl (Nat.le_of_ble_eq_true rfl) ⟨Nat.zero_le _, Nat.zero_le _⟩ d_P_collide_II_274 ?_
        refine pu_l (As := [.long (sR S ((16 : Int32) + x1).toNatClampNeg), .long (f_I_product_JJ v13 v1)]) (rest := [.int ((16 : Int32) + x1), .ref (ad 3)]) ⟨hx, hb, hml, hown, hts⟩ (c_I_difference_JJ l _ (sR S ((16 : Int32) + x1).toNatClampNeg) (f_I_product_JJ v13 v1)) pu_pre (gw_call (k := 2) hts tw_188 tw_189 tw_5 tw_190 (by decide +kernel) rfl rfl ⟨Nat.le_of_ble_eq_true rfl, Nat.le_of_ble_eq_true rfl⟩) rfl hl.1 rfl (Nat.le_of_ble_eq_true rfl) ⟨Nat.zero_le _, Nat.zero_le _⟩ d_P_collide_II_277 ?_
        obtain ⟨S15, e15⟩ : ∃ z : CS, z = u_sR S (vp_updL (sR S) ((16 : Int32) + x1).toNatClampNeg (f_I_difference_JJ (sR S ((16 : Int32) + x1).toNatClampNeg) (f_I_product_JJ v13 v1))) := ⟨_, rfl⟩
        refine hg_last hx hb hK G 3 0 rfl rfl (in_al hk_x1 (by decide)) d_P_collide_II_280 (cW ad cJ cI S15) (by rw [e15]; rfl) (fun H locs G => ?_)
        refine lv_aload_n hx hb d_P_collide_II_281 rfl (lv_at hl 11 rfl) ?_
        refine va_get (D := (dC, dI)) (ci := 1) (v := .ref (ad 3)) (C := R_P) (T := F_P) (N := 3) hx hb hts (fun w h => gm (i_P w h)) hown hK G.1 1 rfl rfl 0 (by decide) (hts _ (gm tw_46)) (fun _ h9 => h9) rfl d_P_collide_II_282 ?_
        refine lv_bipush (v := (24 : Int32)) hx hb d_P_collide_II_285 (by decide) ?_
        refine lv_iload_n hx hb d_P_collide_II_287 rfl (lv_at hl 12 rfl) ?_
        refine lv_iadd hx hb d_P_collide_II_288 ?_
        refine lv_aload_n hx hb d_P_collide_II_289 rfl (lv_at hl 11 rfl) ?_
        refine va_get (D := (dC, dI)) (ci := 1) (v := .ref (ad 3)) (C := R_P) (T := F_P) (N := 3) hx hb hts (fun w h => gm (i_P w h)) hown hK G.1 1 rfl rfl 0 (by decide) (hts _ (gm tw_46)) (fun _ h9 => h9) rfl d_P_collide_II_290 ?_
        refine lv_bipush (v := (24 : Int32)) hx hb d_P_collide_II_293 (by decide) ?_
        refine lv_iload_n hx hb d_P_collide_II_295 rfl (lv_at hl 12 rfl) ?_
        refine lv_iadd hx hb d_P_collide_II_296 ?_
        refine va_lald hx hb hK G.1 3 0 rfl rfl (in_al hk_x1 (by decide)) d_P_collide_II_297 ?_
        refine lv_lload hx hb d_P_collide_II_298 (lv_at hl 1 rfl) ?_
        refine lv_lload hx hb d_P_collide_II_300 (lv_at hl 9 rfl) ?_
        refine pu_l (As := [.long v13, .long v2]) (rest := [.long (sR S15 ((24 : Int32) + x1).toNatClampNeg), .int ((24 : Int32) + x1), .ref (ad 3)]) ⟨hx, hb, hml, hown, hts⟩ (c_I_product_JJ l _ v13 v2) pu_pre (gw_call (k := 2) hts tw_174 tw_175 tw_5 tw_176 (by decide +kernel) rfl rfl ⟨Nat.le_of_ble_eq_true rfl, Nat.le_of_ble_eq_true rfl⟩) rfl hl.1 rfl (Nat.le_of_ble_eq_true rfl) ⟨Nat.zero_le _, Nat.zero_le _⟩ d_P_collide_II_302 ?_
        refine pu_l (As := [.long (sR S15 ((24 : Int32) + x1).toNatClampNeg), .long (f_I_product_JJ v13 v2)]) (rest := [.int ((24 : Int32) + x1), .ref (ad 3)]) ⟨hx, hb, hml, hown, hts⟩ (c_I_difference_JJ l _ (sR S15 ((24 : Int32) + x1).toNatClampNeg) (f_I_product_JJ v13 v2)) pu_pre (gw_call (k := 2) hts tw_188 tw_189 tw_5 tw_190 (by decide +kernel) rfl rfl ⟨Nat.le_of_ble_eq_true rfl, Nat.le_of_ble_eq_true rfl⟩) rfl hl.1 rfl (Nat.le_of_ble_eq_true rfl) ⟨Nat.zero_le _, Nat.zero_le _⟩ d_P_collide_II_305 ?_
        obtain ⟨S16, e16⟩ : ∃ z : CS, z = u_sR S15 (vp_updL (sR S15) ((24 : Int32) + x1).toNatClampNeg (f_I_difference_JJ (sR S15 ((24 : Int32) + x1).toNatClampNeg) (f_I_product_JJ v13 v2))) := ⟨_, rfl⟩
        refine hg_last hx hb hK G 3 0 rfl rfl (in_al hk_x1 (by decide)) d_P_collide_II_308 (cW ad cJ cI S16) (by rw [e16]; rfl) (fun H locs G => ?_)
        refine lv_aload_n hx hb d_P_collide_II_309 rfl (lv_at hl 11 rfl) ?_
        refine va_get (D := (dC, dI)) (ci := 1) (v := .ref (ad 3)) (C := R_P) (T := F_P) (N := 3) hx hb hts (fun w h => gm (i_P w h)) hown hK G.1 1 rfl rfl 0 (by decide) (hts _ (gm tw_46)) (fun _ h9 => h9) rfl d_P_collide_II_310 ?_
        refine lv_bipush (v := (16 : Int32)) hx hb d_P_collide_II_313 (by decide) ?_
        refine lv_iload_n hx hb d_P_collide_II_315 rfl (lv_at hl 13 rfl) ?_
        refine lv_iadd hx hb d_P_collide_II_316 ?_
        refine lv_aload_n hx hb d_P_collide_II_317 rfl (lv_at hl 11 rfl) ?_
        refine va_get (D := (dC, dI)) (ci := 1) (v := .ref (ad 3)) (C := R_P) (T := F_P) (N := 3) hx hb hts (fun w h => gm (i_P w h)) hown hK G.1 1 rfl rfl 0 (by decide) (hts _ (gm tw_46)) (fun _ h9 => h9) rfl d_P_collide_II_318 ?_
        refine lv_bipush (v := (16 : Int32)) hx hb d_P_collide_II_321 (by decide) ?_
        refine lv_iload_n hx hb d_P_collide_II_323 rfl (lv_at hl 13 rfl) ?_
        refine lv_iadd hx hb d_P_collide_II_324 ?_
        refine va_lald hx hb hK G.1 3 0 rfl rfl (in_al hk_x2 (by decide)) d_P_collide_II_325 ?_
        refine lv_lload hx hb d_P_collide_II_326 (lv_at hl 0 rfl) ?_
        refine lv_lload_n hx hb d_P_collide_II_328 rfl (lv_at hl 10 rfl) ?_
        refine pu_l (As := [.long v14, .long v1]) (rest := [.long (sR S16 ((16 : Int32) + x2).toNatClampNeg), .int ((16 : Int32) + x2), .ref (ad 3)]) ⟨hx, hb, hml, hown, hts⟩ (c_I_product_JJ l _ v14 v1) pu_pre (gw_call (k := 2) hts tw_174 tw_175 tw_5 tw_176 (by decide +kernel) rfl rfl ⟨Nat.le_of_ble_eq_true rfl, Nat.le_of_ble_eq_true rfl⟩) rfl hl.1 rfl (Nat.le_of_ble_eq_true rfl) ⟨Nat.zero_le _, Nat.zero_le _⟩ d_P_collide_II_329 ?_
        refine pu_l (As := [.long (sR S16 ((16 : Int32) + x2).toNatClampNeg), .long (f_I_product_JJ v14 v1)]) (rest := [.int ((16 : Int32) + x2), .ref (ad 3)]) ⟨hx, hb, hml, hown, hts⟩ (c_I_sum_JJ l _ (sR S16 ((16 : Int32) + x2).toNatClampNeg) (f_I_product_JJ v14 v1)) pu_pre (gw_call (k := 2) hts tw_249 tw_192 tw_5 tw_193 (by decide +kernel) rfl rfl ⟨Nat.le_of_ble_eq_true rfl, Nat.le_of_ble_eq_true rfl⟩) rfl hl.1 rfl (Nat.le_of_ble_eq_true rfl) ⟨Nat.zero_le _, Nat.zero_le _⟩ d_P_collide_II_332 ?_
        obtain ⟨S17, e17⟩ : ∃ z : CS, z = u_sR S16 (vp_updL (sR S16) ((16 : Int32) + x2).toNatClampNeg (f_I_sum_JJ (sR S16 ((16 : Int32) + x2).toNatClampNeg) (f_I_product_JJ v14 v1))) := ⟨_, rfl⟩
        refine hg_last hx hb hK G 3 0 rfl rfl (in_al hk_x2 (by decide)) d_P_collide_II_335 (cW ad cJ cI S17) (by rw [e17]; rfl) (fun H locs G => ?_)
        refine lv_aload_n hx hb d_P_collide_II_336 rfl (lv_at hl 11 rfl) ?_
        refine va_get (D := (dC, dI)) (ci := 1) (v := .ref (ad 3)) (C := R_P) (T := F_P) (N := 3) hx hb hts (fun w h => gm (i_P w h)) hown hK G.1 1 rfl rfl 0 (by decide) (hts _ (gm tw_46)) (fun _ h9 => h9) rfl d_P_collide_II_337 ?_
        refine lv_bipush (v := (24 : Int32)) hx hb d_P_collide_II_340 (by decide) ?_
        refine lv_iload_n hx hb d_P_collide_II_342 rfl (lv_at hl 13 rfl) ?_
        refine lv_iadd hx hb d_P_collide_II_343 ?_
        refine lv_aload_n hx hb d_P_collide_II_344 rfl (lv_at hl 11 rfl) ?_
        refine va_get (D := (dC, dI)) (ci := 1) (v := .ref (ad 3)) (C := R_P) (T := F_P) (N := 3) hx hb hts (fun w h => gm (i_P w h)) hown hK G.1 1 rfl rfl 0 (by decide) (hts _ (gm tw_46)) (fun _ h9 => h9) rfl d_P_collide_II_345 ?_
        refine lv_bipush (v := (24 : Int32)) hx hb d_P_collide_II_348 (by decide) ?_
        refine lv_iload_n hx hb d_P_collide_II_350 rfl (lv_at hl 13 rfl) ?_
        refine lv_iadd hx hb d_P_collide_II_351 ?_
        refine va_lald hx hb hK G.1 3 0 rfl rfl (in_al hk_x2 (by decide)) d_P_collide_II_352 ?_
        refine lv_lload hx hb d_P_collide_II_353 (lv_at hl 0 rfl) ?_
        refine lv_lload hx hb d_P_collide_II_355 (lv_at hl 9 rfl) ?_
        refine pu_l (As := [.long v14, .long v2]) (rest := [.long (sR S17 ((24 : Int32) + x2).toNatClampNeg), .int ((24 : Int32) + x2), .ref (ad 3)]) ⟨hx, hb, hml, hown, hts⟩ (c_I_product_JJ l _ v14 v2) pu_pre (gw_call (k := 2) hts tw_174 tw_175 tw_5 tw_176 (by decide +kernel) rfl rfl ⟨Nat.le_of_ble_eq_true rfl, Nat.le_of_ble_eq_true rfl⟩) rfl hl.1 rfl (Nat.le_of_ble_eq_true rfl) ⟨Nat.zero_le _, Nat.zero_le _⟩ d_P_collide_II_357 ?_
        refine pu_l (As := [.long (sR S17 ((24 : Int32) + x2).toNatClampNeg), .long (f_I_product_JJ v14 v2)]) (rest := [.int ((24 : Int32) + x2), .ref (ad 3)]) ⟨hx, hb, hml, hown, hts⟩ (c_I_sum_JJ l _ (sR S17 ((24 : Int32) + x2).toNatClampNeg) (f_I_product_JJ v14 v2)) pu_pre (gw_call (k := 2) hts tw_249 tw_192 tw_5 tw_193 (by decide +kernel) rfl rfl ⟨Nat.le_of_ble_eq_true rfl, Nat.le_of_ble_eq_true rfl⟩) rfl hl.1 rfl (Nat.le_of_ble_eq_true rfl) ⟨Nat.zero_le _, Nat.zero_le _⟩ d_P_collide_II_360 ?_
        obtain ⟨S18, e18⟩ : ∃ z : CS, z = u_sR S17 (vp_updL (sR S17) ((24 : Int32) + x2).toNatClampNeg (f_I_sum_JJ (sR S17 ((24 : Int32) + x2).toNatClampNeg) (f_I_product_JJ v14 v2))) := ⟨_, rfl⟩
        refine hg_last hx hb hK G 3 0 rfl rfl (in_al hk_x2 (by decide)) d_P_collide_II_363 (cW ad cJ cI S18) (by rw [e18]; rfl) (fun H locs G => ?_)
        exact hg_vret hx hb hr hlocks hK hAe G (by have qe1 := e1.symm; have qe2 := e2.symm; have qe3 := e3.symm; have qe4 := e4.symm; have qe7 := e7.symm; have qe8 := e8.symm; have qe9 := e9.symm; have qe11 := e11.symm; have qe12 := e12.symm; have qe13 := e13.symm; have qe14 := e14.symm; have qe15 := e15.symm; have qe16 := e16.symm; have qe17 := e17.symm; have qe18 := e18.symm; subst qe1 qe2 qe3 qe4 qe7 qe8 qe9 qe11 qe12 qe13 qe14 qe15 qe16 qe17 qe18; have e9 : f_P_collide_II S x1 x2 = _ := (Eq.trans (if_neg c5) (Eq.trans (if_neg c6) (if_neg c10))); exact Eq.symm (congrArg (cW ad cJ cI) e9)) d_P_collide_II_364
      · exact hg_vret hx hb hr hlocks hK hAe G (by have qe1 := e1.symm; have qe2 := e2.symm; have qe3 := e3.symm; have qe4 := e4.symm; have qe7 := e7.symm; have qe8 := e8.symm; have qe9 := e9.symm; subst qe1 qe2 qe3 qe4 qe7 qe8 qe9; have e9 : f_P_collide_II S x1 x2 = _ := (Eq.trans (if_neg c5) (Eq.trans (if_neg c6) (if_pos c10))); exact Eq.symm (congrArg (cW ad cJ cI) e9)) d_P_collide_II_180
    · exact hg_vret hx hb hr hlocks hK hAe G (by have qe1 := e1.symm; have qe2 := e2.symm; have qe3 := e3.symm; have qe4 := e4.symm; subst qe1 qe2 qe3 qe4; have e9 : f_P_collide_II S x1 x2 = _ := (Eq.trans (if_neg c5) (if_pos c6)); exact Eq.symm (congrArg (cW ad cJ cI) e9)) d_P_collide_II_107
theorem kp_collide (S : CS) (x y : Int32) : sB (f_P_collide_II S x y) = sB S ∧ sC (f_P_collide_II S x y) = sC S := by unfold f_P_collide_II; dsimp only; (repeat' split) <;> exact ⟨rfl, rfl⟩
