-- ===== MotionLab$Plane.pullBySpring(I)V 
abbrev y_P_pullBySpring_I : MethodName := ⟨"MotionLab$Plane", "pullBySpring", "(I)V"⟩
abbrev b_P_pullBySpring_I : ByteArray := prog_3_method_13_code
theorem d_P_pullBySpring_I_0 : decode b_P_pullBySpring_I 0 = .ok (.aload_n 0, 1) := by decide +kernel
theorem d_P_pullBySpring_I_1 : decode b_P_pullBySpring_I 1 = .ok (.getfield 19, 3) := by decide +kernel
theorem d_P_pullBySpring_I_4 : decode b_P_pullBySpring_I 4 = .ok (.iload_n 1, 1) := by decide +kernel
theorem d_P_pullBySpring_I_5 : decode b_P_pullBySpring_I 5 = .ok (.invokevirtual 89, 3) := by decide +kernel
theorem d_P_pullBySpring_I_8 : decode b_P_pullBySpring_I 8 = .ok (.istore_n 2, 1) := by decide +kernel
theorem d_P_pullBySpring_I_9 : decode b_P_pullBySpring_I 9 = .ok (.aload_n 0, 1) := by decide +kernel
theorem d_P_pullBySpring_I_10 : decode b_P_pullBySpring_I 10 = .ok (.getfield 19, 3) := by decide +kernel
theorem d_P_pullBySpring_I_13 : decode b_P_pullBySpring_I 13 = .ok (.iload_n 1, 1) := by decide +kernel
theorem d_P_pullBySpring_I_14 : decode b_P_pullBySpring_I 14 = .ok (.invokevirtual 93, 3) := by decide +kernel
theorem d_P_pullBySpring_I_17 : decode b_P_pullBySpring_I 17 = .ok (.istore_n 3, 1) := by decide +kernel
theorem d_P_pullBySpring_I_18 : decode b_P_pullBySpring_I 18 = .ok (.aload_n 0, 1) := by decide +kernel
theorem d_P_pullBySpring_I_19 : decode b_P_pullBySpring_I 19 = .ok (.getfield 9, 3) := by decide +kernel
theorem d_P_pullBySpring_I_22 : decode b_P_pullBySpring_I 22 = .ok (.iconst 0, 1) := by decide +kernel
theorem d_P_pullBySpring_I_23 : decode b_P_pullBySpring_I 23 = .ok (.iload_n 3, 1) := by decide +kernel
theorem d_P_pullBySpring_I_24 : decode b_P_pullBySpring_I 24 = .ok (.iadd, 1) := by decide +kernel
theorem d_P_pullBySpring_I_25 : decode b_P_pullBySpring_I 25 = .ok (.laload, 1) := by decide +kernel
theorem d_P_pullBySpring_I_26 : decode b_P_pullBySpring_I 26 = .ok (.aload_n 0, 1) := by decide +kernel
theorem d_P_pullBySpring_I_27 : decode b_P_pullBySpring_I 27 = .ok (.getfield 9, 3) := by decide +kernel
theorem d_P_pullBySpring_I_30 : decode b_P_pullBySpring_I 30 = .ok (.iconst 0, 1) := by decide +kernel
theorem d_P_pullBySpring_I_31 : decode b_P_pullBySpring_I 31 = .ok (.iload_n 2, 1) := by decide +kernel
theorem d_P_pullBySpring_I_32 : decode b_P_pullBySpring_I 32 = .ok (.iadd, 1) := by decide +kernel
theorem d_P_pullBySpring_I_33 : decode b_P_pullBySpring_I 33 = .ok (.laload, 1) := by decide +kernel
theorem d_P_pullBySpring_I_34 : decode b_P_pullBySpring_I 34 = .ok (.invokestatic 70, 3) := by decide +kernel
theorem d_P_pullBySpring_I_37 : decode b_P_pullBySpring_I 37 = .ok (.lstore 4, 2) := by decide +kernel
theorem d_P_pullBySpring_I_39 : decode b_P_pullBySpring_I 39 = .ok (.aload_n 0, 1) := by decide +kernel
theorem d_P_pullBySpring_I_40 : decode b_P_pullBySpring_I 40 = .ok (.getfield 9, 3) := by decide +kernel
theorem d_P_pullBySpring_I_43 : decode b_P_pullBySpring_I 43 = .ok (.bipush 8, 2) := by decide +kernel
theorem d_P_pullBySpring_I_45 : decode b_P_pullBySpring_I 45 = .ok (.iload_n 3, 1) := by decide +kernel
theorem d_P_pullBySpring_I_46 : decode b_P_pullBySpring_I 46 = .ok (.iadd, 1) := by decide +kernel
theorem d_P_pullBySpring_I_47 : decode b_P_pullBySpring_I 47 = .ok (.laload, 1) := by decide +kernel
theorem d_P_pullBySpring_I_48 : decode b_P_pullBySpring_I 48 = .ok (.aload_n 0, 1) := by decide +kernel
theorem d_P_pullBySpring_I_49 : decode b_P_pullBySpring_I 49 = .ok (.getfield 9, 3) := by decide +kernel
theorem d_P_pullBySpring_I_52 : decode b_P_pullBySpring_I 52 = .ok (.bipush 8, 2) := by decide +kernel
theorem d_P_pullBySpring_I_54 : decode b_P_pullBySpring_I 54 = .ok (.iload_n 2, 1) := by decide +kernel
theorem d_P_pullBySpring_I_55 : decode b_P_pullBySpring_I 55 = .ok (.iadd, 1) := by decide +kernel
theorem d_P_pullBySpring_I_56 : decode b_P_pullBySpring_I 56 = .ok (.laload, 1) := by decide +kernel
theorem d_P_pullBySpring_I_57 : decode b_P_pullBySpring_I 57 = .ok (.invokestatic 70, 3) := by decide +kernel
theorem d_P_pullBySpring_I_60 : decode b_P_pullBySpring_I 60 = .ok (.lstore 6, 2) := by decide +kernel
theorem d_P_pullBySpring_I_62 : decode b_P_pullBySpring_I 62 = .ok (.lload 4, 2) := by decide +kernel
theorem d_P_pullBySpring_I_64 : decode b_P_pullBySpring_I 64 = .ok (.lload 4, 2) := by decide +kernel
theorem d_P_pullBySpring_I_66 : decode b_P_pullBySpring_I 66 = .ok (.lload 6, 2) := by decide +kernel
theorem d_P_pullBySpring_I_68 : decode b_P_pullBySpring_I 68 = .ok (.lload 6, 2) := by decide +kernel
theorem d_P_pullBySpring_I_70 : decode b_P_pullBySpring_I 70 = .ok (.invokestatic 96, 3) := by decide +kernel
theorem d_P_pullBySpring_I_73 : decode b_P_pullBySpring_I 73 = .ok (.invokestatic 100, 3) := by decide +kernel
theorem d_P_pullBySpring_I_76 : decode b_P_pullBySpring_I 76 = .ok (.lstore 8, 2) := by decide +kernel
theorem d_P_pullBySpring_I_78 : decode b_P_pullBySpring_I 78 = .ok (.lconst 0, 1) := by decide +kernel
theorem d_P_pullBySpring_I_79 : decode b_P_pullBySpring_I 79 = .ok (.lload 8, 2) := by decide +kernel
theorem d_P_pullBySpring_I_81 : decode b_P_pullBySpring_I 81 = .ok (.invokestatic 103, 3) := by decide +kernel
theorem d_P_pullBySpring_I_84 : decode b_P_pullBySpring_I 84 = .ok (.ifCond .ne 4, 3) := by decide +kernel
theorem d_P_pullBySpring_I_87 : decode b_P_pullBySpring_I 87 = .ok (.return_, 1) := by decide +kernel
theorem d_P_pullBySpring_I_88 : decode b_P_pullBySpring_I 88 = .ok (.aload_n 0, 1) := by decide +kernel
theorem d_P_pullBySpring_I_89 : decode b_P_pullBySpring_I 89 = .ok (.getfield 9, 3) := by decide +kernel
theorem d_P_pullBySpring_I_92 : decode b_P_pullBySpring_I 92 = .ok (.bipush 16, 2) := by decide +kernel
theorem d_P_pullBySpring_I_94 : decode b_P_pullBySpring_I 94 = .ok (.iload_n 3, 1) := by decide +kernel
theorem d_P_pullBySpring_I_95 : decode b_P_pullBySpring_I 95 = .ok (.iadd, 1) := by decide +kernel
theorem d_P_pullBySpring_I_96 : decode b_P_pullBySpring_I 96 = .ok (.laload, 1) := by decide +kernel
theorem d_P_pullBySpring_I_97 : decode b_P_pullBySpring_I 97 = .ok (.aload_n 0, 1) := by decide +kernel
theorem d_P_pullBySpring_I_98 : decode b_P_pullBySpring_I 98 = .ok (.getfield 9, 3) := by decide +kernel
theorem d_P_pullBySpring_I_101 : decode b_P_pullBySpring_I 101 = .ok (.bipush 16, 2) := by decide +kernel
theorem d_P_pullBySpring_I_103 : decode b_P_pullBySpring_I 103 = .ok (.iload_n 2, 1) := by decide +kernel
theorem d_P_pullBySpring_I_104 : decode b_P_pullBySpring_I 104 = .ok (.iadd, 1) := by decide +kernel
theorem d_P_pullBySpring_I_105 : decode b_P_pullBySpring_I 105 = .ok (.laload, 1) := by decide +kernel
theorem d_P_pullBySpring_I_106 : decode b_P_pullBySpring_I 106 = .ok (.invokestatic 70, 3) := by decide +kernel
theorem d_P_pullBySpring_I_109 : decode b_P_pullBySpring_I 109 = .ok (.lstore 10, 2) := by decide +kernel
theorem d_P_pullBySpring_I_111 : decode b_P_pullBySpring_I 111 = .ok (.aload_n 0, 1) := by decide +kernel
theorem d_P_pullBySpring_I_112 : decode b_P_pullBySpring_I 112 = .ok (.getfield 9, 3) := by decide +kernel
theorem d_P_pullBySpring_I_115 : decode b_P_pullBySpring_I 115 = .ok (.bipush 24, 2) := by decide +kernel
theorem d_P_pullBySpring_I_117 : decode b_P_pullBySpring_I 117 = .ok (.iload_n 3, 1) := by decide +kernel
theorem d_P_pullBySpring_I_118 : decode b_P_pullBySpring_I 118 = .ok (.iadd, 1) := by decide +kernel
theorem d_P_pullBySpring_I_119 : decode b_P_pullBySpring_I 119 = .ok (.laload, 1) := by decide +kernel
theorem d_P_pullBySpring_I_120 : decode b_P_pullBySpring_I 120 = .ok (.aload_n 0, 1) := by decide +kernel
theorem d_P_pullBySpring_I_121 : decode b_P_pullBySpring_I 121 = .ok (.getfield 9, 3) := by decide +kernel
theorem d_P_pullBySpring_I_124 : decode b_P_pullBySpring_I 124 = .ok (.bipush 24, 2) := by decide +kernel
theorem d_P_pullBySpring_I_126 : decode b_P_pullBySpring_I 126 = .ok (.iload_n 2, 1) := by decide +kernel
theorem d_P_pullBySpring_I_127 : decode b_P_pullBySpring_I 127 = .ok (.iadd, 1) := by decide +kernel
theorem d_P_pullBySpring_I_128 : decode b_P_pullBySpring_I 128 = .ok (.laload, 1) := by decide +kernel
theorem d_P_pullBySpring_I_129 : decode b_P_pullBySpring_I 129 = .ok (.invokestatic 70, 3) := by decide +kernel
theorem d_P_pullBySpring_I_132 : decode b_P_pullBySpring_I 132 = .ok (.lstore 12, 2) := by decide +kernel
theorem d_P_pullBySpring_I_134 : decode b_P_pullBySpring_I 134 = .ok (.aload_n 0, 1) := by decide +kernel
theorem d_P_pullBySpring_I_135 : decode b_P_pullBySpring_I 135 = .ok (.getfield 19, 3) := by decide +kernel
theorem d_P_pullBySpring_I_138 : decode b_P_pullBySpring_I 138 = .ok (.iload_n 1, 1) := by decide +kernel
theorem d_P_pullBySpring_I_139 : decode b_P_pullBySpring_I 139 = .ok (.invokevirtual 107, 3) := by decide +kernel
theorem d_P_pullBySpring_I_142 : decode b_P_pullBySpring_I 142 = .ok (.lload 8, 2) := by decide +kernel
theorem d_P_pullBySpring_I_144 : decode b_P_pullBySpring_I 144 = .ok (.aload_n 0, 1) := by decide +kernel
theorem d_P_pullBySpring_I_145 : decode b_P_pullBySpring_I 145 = .ok (.getfield 19, 3) := by decide +kernel
theorem d_P_pullBySpring_I_148 : decode b_P_pullBySpring_I 148 = .ok (.iload_n 1, 1) := by decide +kernel
theorem d_P_pullBySpring_I_149 : decode b_P_pullBySpring_I 149 = .ok (.invokevirtual 110, 3) := by decide +kernel
theorem d_P_pullBySpring_I_152 : decode b_P_pullBySpring_I 152 = .ok (.invokestatic 70, 3) := by decide +kernel
theorem d_P_pullBySpring_I_155 : decode b_P_pullBySpring_I 155 = .ok (.invokestatic 86, 3) := by decide +kernel
theorem d_P_pullBySpring_I_158 : decode b_P_pullBySpring_I 158 = .ok (.lstore 14, 2) := by decide +kernel
theorem d_P_pullBySpring_I_160 : decode b_P_pullBySpring_I 160 = .ok (.aload_n 0, 1) := by decide +kernel
theorem d_P_pullBySpring_I_161 : decode b_P_pullBySpring_I 161 = .ok (.getfield 19, 3) := by decide +kernel
theorem d_P_pullBySpring_I_164 : decode b_P_pullBySpring_I 164 = .ok (.iload_n 1, 1) := by decide +kernel
theorem d_P_pullBySpring_I_165 : decode b_P_pullBySpring_I 165 = .ok (.invokevirtual 113, 3) := by decide +kernel
theorem d_P_pullBySpring_I_168 : decode b_P_pullBySpring_I 168 = .ok (.lload 10, 2) := by decide +kernel
theorem d_P_pullBySpring_I_170 : decode b_P_pullBySpring_I 170 = .ok (.lload 4, 2) := by decide +kernel
theorem d_P_pullBySpring_I_172 : decode b_P_pullBySpring_I 172 = .ok (.lload 12, 2) := by decide +kernel
theorem d_P_pullBySpring_I_174 : decode b_P_pullBySpring_I 174 = .ok (.lload 6, 2) := by decide +kernel
theorem d_P_pullBySpring_I_176 : decode b_P_pullBySpring_I 176 = .ok (.invokestatic 96, 3) := by decide +kernel
theorem d_P_pullBySpring_I_179 : decode b_P_pullBySpring_I 179 = .ok (.invokestatic 86, 3) := by decide +kernel
theorem d_P_pullBySpring_I_182 : decode b_P_pullBySpring_I 182 = .ok (.lstore 16, 2) := by decide +kernel
theorem d_P_pullBySpring_I_184 : decode b_P_pullBySpring_I 184 = .ok (.lload 14, 2) := by decide +kernel
theorem d_P_pullBySpring_I_186 : decode b_P_pullBySpring_I 186 = .ok (.lload 8, 2) := by decide +kernel
theorem d_P_pullBySpring_I_188 : decode b_P_pullBySpring_I 188 = .ok (.invokestatic 83, 3) := by decide +kernel
theorem d_P_pullBySpring_I_191 : decode b_P_pullBySpring_I 191 = .ok (.lload 16, 2) := by decide +kernel
theorem d_P_pullBySpring_I_193 : decode b_P_pullBySpring_I 193 = .ok (.lload 8, 2) := by decide +kernel
theorem d_P_pullBySpring_I_195 : decode b_P_pullBySpring_I 195 = .ok (.lload 8, 2) := by decide +kernel
theorem d_P_pullBySpring_I_197 : decode b_P_pullBySpring_I 197 = .ok (.invokestatic 86, 3) := by decide +kernel
theorem d_P_pullBySpring_I_200 : decode b_P_pullBySpring_I 200 = .ok (.invokestatic 83, 3) := by decide +kernel
theorem d_P_pullBySpring_I_203 : decode b_P_pullBySpring_I 203 = .ok (.invokestatic 63, 3) := by decide +kernel
theorem d_P_pullBySpring_I_206 : decode b_P_pullBySpring_I 206 = .ok (.lstore 18, 2) := by decide +kernel
theorem d_P_pullBySpring_I_208 : decode b_P_pullBySpring_I 208 = .ok (.lload 18, 2) := by decide +kernel
theorem d_P_pullBySpring_I_210 : decode b_P_pullBySpring_I 210 = .ok (.lload 4, 2) := by decide +kernel
theorem d_P_pullBySpring_I_212 : decode b_P_pullBySpring_I 212 = .ok (.invokestatic 86, 3) := by decide +kernel
theorem d_P_pullBySpring_I_215 : decode b_P_pullBySpring_I 215 = .ok (.lstore 20, 2) := by decide +kernel
theorem d_P_pullBySpring_I_217 : decode b_P_pullBySpring_I 217 = .ok (.lload 18, 2) := by decide +kernel
theorem d_P_pullBySpring_I_219 : decode b_P_pullBySpring_I 219 = .ok (.lload 6, 2) := by decide +kernel
theorem d_P_pullBySpring_I_221 : decode b_P_pullBySpring_I 221 = .ok (.invokestatic 86, 3) := by decide +kernel
theorem d_P_pullBySpring_I_224 : decode b_P_pullBySpring_I 224 = .ok (.lstore 22, 2) := by decide +kernel
theorem d_P_pullBySpring_I_226 : decode b_P_pullBySpring_I 226 = .ok (.aload_n 0, 1) := by decide +kernel
theorem d_P_pullBySpring_I_227 : decode b_P_pullBySpring_I 227 = .ok (.getfield 9, 3) := by decide +kernel
theorem d_P_pullBySpring_I_230 : decode b_P_pullBySpring_I 230 = .ok (.bipush 48, 2) := by decide +kernel
theorem d_P_pullBySpring_I_232 : decode b_P_pullBySpring_I 232 = .ok (.iload_n 2, 1) := by decide +kernel
theorem d_P_pullBySpring_I_233 : decode b_P_pullBySpring_I 233 = .ok (.iadd, 1) := by decide +kernel
theorem d_P_pullBySpring_I_234 : decode b_P_pullBySpring_I 234 = .ok (.aload_n 0, 1) := by decide +kernel
theorem d_P_pullBySpring_I_235 : decode b_P_pullBySpring_I 235 = .ok (.getfield 9, 3) := by decide +kernel
theorem d_P_pullBySpring_I_238 : decode b_P_pullBySpring_I 238 = .ok (.bipush 48, 2) := by decide +kernel
theorem d_P_pullBySpring_I_240 : decode b_P_pullBySpring_I 240 = .ok (.iload_n 2, 1) := by decide +kernel
theorem d_P_pullBySpring_I_241 : decode b_P_pullBySpring_I 241 = .ok (.iadd, 1) := by decide +kernel
theorem d_P_pullBySpring_I_242 : decode b_P_pullBySpring_I 242 = .ok (.laload, 1) := by decide +kernel
theorem d_P_pullBySpring_I_243 : decode b_P_pullBySpring_I 243 = .ok (.lload 20, 2) := by decide +kernel
theorem d_P_pullBySpring_I_245 : decode b_P_pullBySpring_I 245 = .ok (.invokestatic 63, 3) := by decide +kernel
theorem d_P_pullBySpring_I_248 : decode b_P_pullBySpring_I 248 = .ok (.lastore, 1) := by decide +kernel
theorem d_P_pullBySpring_I_249 : decode b_P_pullBySpring_I 249 = .ok (.aload_n 0, 1) := by decide +kernel
theorem d_P_pullBySpring_I_250 : decode b_P_pullBySpring_I 250 = .ok (.getfield 9, 3) := by decide +kernel
theorem d_P_pullBySpring_I_253 : decode b_P_pullBySpring_I 253 = .ok (.bipush 56, 2) := by decide +kernel
theorem d_P_pullBySpring_I_255 : decode b_P_pullBySpring_I 255 = .ok (.iload_n 2, 1) := by decide +kernel
theorem d_P_pullBySpring_I_256 : decode b_P_pullBySpring_I 256 = .ok (.iadd, 1) := by decide +kernel
theorem d_P_pullBySpring_I_257 : decode b_P_pullBySpring_I 257 = .ok (.aload_n 0, 1) := by decide +kernel
theorem d_P_pullBySpring_I_258 : decode b_P_pullBySpring_I 258 = .ok (.getfield 9, 3) := by decide +kernel
theorem d_P_pullBySpring_I_261 : decode b_P_pullBySpring_I 261 = .ok (.bipush 56, 2) := by decide +kernel
theorem d_P_pullBySpring_I_263 : decode b_P_pullBySpring_I 263 = .ok (.iload_n 2, 1) := by decide +kernel
theorem d_P_pullBySpring_I_264 : decode b_P_pullBySpring_I 264 = .ok (.iadd, 1) := by decide +kernel
theorem d_P_pullBySpring_I_265 : decode b_P_pullBySpring_I 265 = .ok (.laload, 1) := by decide +kernel
theorem d_P_pullBySpring_I_266 : decode b_P_pullBySpring_I 266 = .ok (.lload 22, 2) := by decide +kernel
theorem d_P_pullBySpring_I_268 : decode b_P_pullBySpring_I 268 = .ok (.invokestatic 63, 3) := by decide +kernel
theorem d_P_pullBySpring_I_271 : decode b_P_pullBySpring_I 271 = .ok (.lastore, 1) := by decide +kernel
theorem d_P_pullBySpring_I_272 : decode b_P_pullBySpring_I 272 = .ok (.aload_n 0, 1) := by decide +kernel
theorem d_P_pullBySpring_I_273 : decode b_P_pullBySpring_I 273 = .ok (.getfield 9, 3) := by decide +kernel
theorem d_P_pullBySpring_I_276 : decode b_P_pullBySpring_I 276 = .ok (.bipush 48, 2) := by decide +kernel
theorem d_P_pullBySpring_I_278 : decode b_P_pullBySpring_I 278 = .ok (.iload_n 3, 1) := by decide +kernel
theorem d_P_pullBySpring_I_279 : decode b_P_pullBySpring_I 279 = .ok (.iadd, 1) := by decide +kernel
theorem d_P_pullBySpring_I_280 : decode b_P_pullBySpring_I 280 = .ok (.aload_n 0, 1) := by decide +kernel
theorem d_P_pullBySpring_I_281 : decode b_P_pullBySpring_I 281 = .ok (.getfield 9, 3) := by decide +kernel
theorem d_P_pullBySpring_I_284 : decode b_P_pullBySpring_I 284 = .ok (.bipush 48, 2) := by decide +kernel
theorem d_P_pullBySpring_I_286 : decode b_P_pullBySpring_I 286 = .ok (.iload_n 3, 1) := by decide +kernel
theorem d_P_pullBySpring_I_287 : decode b_P_pullBySpring_I 287 = .ok (.iadd, 1) := by decide +kernel
theorem d_P_pullBySpring_I_288 : decode b_P_pullBySpring_I 288 = .ok (.laload, 1) := by decide +kernel
theorem d_P_pullBySpring_I_289 : decode b_P_pullBySpring_I 289 = .ok (.lload 20, 2) := by decide +kernel
theorem d_P_pullBySpring_I_291 : decode b_P_pullBySpring_I 291 = .ok (.invokestatic 70, 3) := by decide +kernel
theorem d_P_pullBySpring_I_294 : decode b_P_pullBySpring_I 294 = .ok (.lastore, 1) := by decide +kernel
theorem d_P_pullBySpring_I_295 : decode b_P_pullBySpring_I 295 = .ok (.aload_n 0, 1) := by decide +kernel
theorem d_P_pullBySpring_I_296 : decode b_P_pullBySpring_I 296 = .ok (.getfield 9, 3) := by decide +kernel
theorem d_P_pullBySpring_I_299 : decode b_P_pullBySpring_I 299 = .ok (.bipush 56, 2) := by decide +kernel
theorem d_P_pullBySpring_I_301 : decode b_P_pullBySpring_I 301 = .ok (.iload_n 3, 1) := by decide +kernel
theorem d_P_pullBySpring_I_302 : decode b_P_pullBySpring_I 302 = .ok (.iadd, 1) := by decide +kernel
theorem d_P_pullBySpring_I_303 : decode b_P_pullBySpring_I 303 = .ok (.aload_n 0, 1) := by decide +kernel
theorem d_P_pullBySpring_I_304 : decode b_P_pullBySpring_I 304 = .ok (.getfield 9, 3) := by decide +kernel
theorem d_P_pullBySpring_I_307 : decode b_P_pullBySpring_I 307 = .ok (.bipush 56, 2) := by decide +kernel
theorem d_P_pullBySpring_I_309 : decode b_P_pullBySpring_I 309 = .ok (.iload_n 3, 1) := by decide +kernel
theorem d_P_pullBySpring_I_310 : decode b_P_pullBySpring_I 310 = .ok (.iadd, 1) := by decide +kernel
theorem d_P_pullBySpring_I_311 : decode b_P_pullBySpring_I 311 = .ok (.laload, 1) := by decide +kernel
theorem d_P_pullBySpring_I_312 : decode b_P_pullBySpring_I 312 = .ok (.lload 22, 2) := by decide +kernel
theorem d_P_pullBySpring_I_314 : decode b_P_pullBySpring_I 314 = .ok (.invokestatic 70, 3) := by decide +kernel
theorem d_P_pullBySpring_I_317 : decode b_P_pullBySpring_I 317 = .ok (.lastore, 1) := by decide +kernel
theorem d_P_pullBySpring_I_318 : decode b_P_pullBySpring_I 318 = .ok (.return_, 1) := by decide +kernel
def f_P_pullBySpring_I (S : CS) (x1 : Int32) : CS :=
  let v1 : Int32 := f_S_firstBody_I S x1
  let v2 : Int32 := f_S_secondBody_I S x1
  let v3 : Int64 := f_I_difference_JJ (sR S ((0 : Int32) + v2).toNatClampNeg) (sR S ((0 : Int32) + v1).toNatClampNeg)
  let v4 : Int64 := f_I_difference_JJ (sR S ((8 : Int32) + v2).toNatClampNeg) (sR S ((8 : Int32) + v1).toNatClampNeg)
  let v5 : Int64 := f_I_root_J (f_I_products_JJJJ v3 v3 v4 v4)
  if (f_I_less_JJ (0 : Int64) v5) = 0 then
    S
  else
    let v7 : Int64 := f_I_difference_JJ (sR S ((16 : Int32) + v2).toNatClampNeg) (sR S ((16 : Int32) + v1).toNatClampNeg)
    let v8 : Int64 := f_I_difference_JJ (sR S ((24 : Int32) + v2).toNatClampNeg) (sR S ((24 : Int32) + v1).toNatClampNeg)
    let v9 : Int64 := f_I_product_JJ (f_S_stiffness_I S x1) (f_I_difference_JJ v5 (f_S_length_I S x1))
    let v10 : Int64 := f_I_product_JJ (f_S_damping_I S x1) (f_I_products_JJJJ v7 v3 v8 v4)
    let v11 : Int64 := f_I_sum_JJ (f_I_quotient_JJ v9 v5) (f_I_quotient_JJ v10 (f_I_product_JJ v5 v5))
    let v12 : Int64 := f_I_product_JJ v11 v3
    let v13 : Int64 := f_I_product_JJ v11 v4
    let S14 : CS := u_sR S (vp_updL (sR S) ((48 : Int32) + v1).toNatClampNeg (f_I_sum_JJ (sR S ((48 : Int32) + v1).toNatClampNeg) v12))
    let S15 : CS := u_sR S14 (vp_updL (sR S14) ((56 : Int32) + v1).toNatClampNeg (f_I_sum_JJ (sR S14 ((56 : Int32) + v1).toNatClampNeg) v13))
    let S16 : CS := u_sR S15 (vp_updL (sR S15) ((48 : Int32) + v2).toNatClampNeg (f_I_difference_JJ (sR S15 ((48 : Int32) + v2).toNatClampNeg) v12))
    let S17 : CS := u_sR S16 (vp_updL (sR S16) ((56 : Int32) + v2).toNatClampNeg (f_I_difference_JJ (sR S16 ((56 : Int32) + v2).toNatClampNeg) v13))
    S17
set_option maxHeartbeats 4000000 in
set_option maxRecDepth 100000 in
theorem c_P_pullBySpring_I (l : Launch) (dC : Nat → ClassId) (dI : Nat → Nat → Nat) (ad : Nat → Nat) (cJ cI : ClassId) (S : CS) (x1 : Int32) (hk_x1 : vp_in x1 10) (hb1 : vp_in (f_S_firstBody_I S x1) 8) (hb2 : vp_in (f_S_secondBody_I S x1) 8) (sz : Nat) : hMv l y_P_pullBySpring_I (gw y_P_pullBySpring_I b_P_pullBySpring_I 24 none) { frames := 5, cells := 0, slots := 0, locals := 133 } [.ref (ad 1), .int x1] (dC, dI) classes (tysJI cJ cI) (fun _ => True) (cW ad cJ cI S) sz (cW ad cJ cI (f_P_pullBySpring_I S x1)) := by
  refine Met.ofW (cc := b_P_pullBySpring_I) (maxL := 24) (ret := none) (by decide) rfl ?_
  intro p e s m args below meth c s₁ B hml hv
  obtain ⟨rfl, hsz, hP, hK, hD0, hRT⟩ := hv
  have hx := B.exec
  have hb := B.bytes
  have hr := B.returns
  have hts := atoms_spec (ws := (gw y_P_pullBySpring_I b_P_pullBySpring_I 24 none)) B.pre
  have hown : s.vm.findClass "MotionLab$Plane" = some m.cls := findClass_of_methodNamed B.named
  have hlocks := B.notSynchronized
  subst hsz
  have hD := hD0.self (sz := s.heap.size)
  generalize hAe : va_A (cW ad cJ cI S) s.heap.size = A at hD
  have hA : ∀ q : Nat, s.heap.size ≤ q → A q := fun q h => by rw [← hAe]; exact Or.inr h
  have G : hG (dC, dI) classes A s.heap (cW ad cJ cI S) s.heap [] := ⟨hP, hD, va_S.rf⟩
  have hl := lv_entry ([.ref (ad 1), .int x1]) (n := 24) (Nat.le_of_ble_eq_true rfl)
  rw [lg_entry_eq]
  generalize (lg_sl ([.ref (ad 1), .int x1]) ++ List.replicate (24 - (lg_sl ([.ref (ad 1), .int x1])).length) Slot.unset).toArray = ls at hl ⊢
  have hl : lv_has ls 24 [(0, .ref (ad 1)), (1, .int x1)] := hl
  refine lv_aload_n hx hb d_P_pullBySpring_I_0 rfl (lv_at hl 0 rfl) ?_
  refine va_get (D := (dC, dI)) (ci := 1) (v := .ref (ad 5)) (C := R_P) (T := F_P) (N := 3) hx hb hts (fun w h => gm (i_P w h)) hown hK G.1 1 rfl rfl 2 (by decide) (hts _ (gm tw_48)) (fun _ h9 => h9) rfl d_P_pullBySpring_I_1 ?_
  refine lv_iload_n hx hb d_P_pullBySpring_I_4 rfl (lv_at hl 1 rfl) ?_
  refine hg_ci (As := [.int x1]) (rest := []) ⟨hx, hb, hml, hown, hts⟩ (c_S_firstBody_I l dC dI ad cJ cI S x1 hk_x1 _) (gw_callV (k := 1) hts tw_207 tw_208 tw_209 tw_3 tw_210 (by decide +kernel) rfl rfl ⟨Nat.le_of_ble_eq_true rfl, Nat.le_of_ble_eq_true rfl⟩) hK G hA (hx_T _ _) 2 5 rfl rfl rfl hl.1 rfl (Nat.le_of_ble_eq_true rfl) ⟨Nat.zero_le _, Nat.zero_le _⟩ d_P_pullBySpring_I_5 (fun H locs G => ?_)
  refine lv_topi (fun v1 e1 => ?_)
  refine lv_istore_n (lv' := [(2, .int v1), (0, .ref (ad 1)), (1, .int x1)]) hx hb d_P_pullBySpring_I_8 rfl hl (by decide) rfl (fun ls hl => ?_)
  refine lv_aload_n hx hb d_P_pullBySpring_I_9 rfl (lv_at hl 1 rfl) ?_
  refine va_get (D := (dC, dI)) (ci := 1) (v := .ref (ad 5)) (C := R_P) (T := F_P) (N := 3) hx hb hts (fun w h => gm (i_P w h)) hown hK G.1 1 rfl rfl 2 (by decide) (hts _ (gm tw_48)) (fun _ h9 => h9) rfl d_P_pullBySpring_I_10 ?_
  refine lv_iload_n hx hb d_P_pullBySpring_I_13 rfl (lv_at hl 2 rfl) ?_
  refine hg_ci (As := [.int x1]) (rest := []) ⟨hx, hb, hml, hown, hts⟩ (c_S_secondBody_I l dC dI ad cJ cI S x1 hk_x1 _) (gw_callV (k := 1) hts tw_211 tw_212 tw_213 tw_3 tw_214 (by decide +kernel) rfl rfl ⟨Nat.le_of_ble_eq_true rfl, Nat.le_of_ble_eq_true rfl⟩) hK G hA (hx_T _ _) 2 5 rfl rfl rfl hl.1 rfl (Nat.le_of_ble_eq_true rfl) ⟨Nat.zero_le _, Nat.zero_le _⟩ d_P_pullBySpring_I_14 (fun H locs G => ?_)
  refine lv_topi (fun v2 e2 => ?_)
  refine lv_istore_n (lv' := [(3, .int v2), (2, .int v1), (0, .ref (ad 1)), (1, .int x1)]) hx hb d_P_pullBySpring_I_17 rfl hl (by decide) rfl (fun ls hl => ?_)
  refine lv_aload_n hx hb d_P_pullBySpring_I_18 rfl (lv_at hl 2 rfl) ?_
  refine va_get (D := (dC, dI)) (ci := 1) (v := .ref (ad 3)) (C := R_P) (T := F_P) (N := 3) hx hb hts (fun w h => gm (i_P w h)) hown hK G.1 1 rfl rfl 0 (by decide) (hts _ (gm tw_46)) (fun _ h9 => h9) rfl d_P_pullBySpring_I_19 ?_
  refine lv_iconst (v := 0) hx hb d_P_pullBySpring_I_22 (by decide) ?_
  refine lv_iload_n hx hb d_P_pullBySpring_I_23 rfl (lv_at hl 0 rfl) ?_
  refine lv_iadd hx hb d_P_pullBySpring_I_24 ?_
  refine va_lald hx hb hK G.1 3 0 rfl rfl (in_al (by rw [e2]; exact hb2) (by decide)) d_P_pullBySpring_I_25 ?_
  refine lv_aload_n hx hb d_P_pullBySpring_I_26 rfl (lv_at hl 2 rfl) ?_
  refine va_get (D := (dC, dI)) (ci := 1) (v := .ref (ad 3)) (C := R_P) (T := F_P) (N := 3) hx hb hts (fun w h => gm (i_P w h)) hown hK G.1 1 rfl rfl 0 (by decide) (hts _ (gm tw_46)) (fun _ h9 => h9) rfl d_P_pullBySpring_I_27 ?_
  refine lv_iconst (v := 0) hx hb d_P_pullBySpring_I_30 (by decide) ?_
  refine lv_iload_n hx hb d_P_pullBySpring_I_31 rfl (lv_at hl 1 rfl) ?_
  refine lv_iadd hx hb d_P_pullBySpring_I_32 ?_
  refine va_lald hx hb hK G.1 3 0 rfl rfl (in_al (by rw [e1]; exact hb1) (by decide)) d_P_pullBySpring_I_33 ?_
  refine pu_l (As := [.long (sR S ((0 : Int32) + v2).toNatClampNeg), .long (sR S ((0 : Int32) + v1).toNatClampNeg)]) (rest := []) ⟨hx, hb, hml, hown, hts⟩ (c_I_difference_JJ l _ (sR S ((0 : Int32) + v2).toNatClampNeg) (sR S ((0 : Int32) + v1).toNatClampNeg)) pu_pre (gw_call (k := 2) hts tw_188 tw_189 tw_5 tw_190 (by decide +kernel) rfl rfl ⟨Nat.le_of_ble_eq_true rfl, Nat.le_of_ble_eq_true rfl⟩) rfl hl.1 rfl (Nat.le_of_ble_eq_true rfl) ⟨Nat.zero_le _, Nat.zero_le _⟩ d_P_pullBySpring_I_34 ?_
  refine lv_topl (fun v3 e3 => ?_)
  refine lv_lstore (lv' := [(4, .long v3), (3, .int v2), (2, .int v1), (0, .ref (ad 1)), (1, .int x1)]) hx hb d_P_pullBySpring_I_37 hl (by decide) rfl (fun ls hl => ?_)
  refine lv_aload_n hx hb d_P_pullBySpring_I_39 rfl (lv_at hl 3 rfl) ?_
  refine va_get (D := (dC, dI)) (ci := 1) (v := .ref (ad 3)) (C := R_P) (T := F_P) (N := 3) hx hb hts (fun w h => gm (i_P w h)) hown hK G.1 1 rfl rfl 0 (by decide) (hts _ (gm tw_46)) (fun _ h9 => h9) rfl d_P_pullBySpring_I_40 ?_
  refine lv_bipush (v := (8 : Int32)) hx hb d_P_pullBySpring_I_43 (by decide) ?_
  refine lv_iload_n hx hb d_P_pullBySpring_I_45 rfl (lv_at hl 1 rfl) ?_
  refine lv_iadd hx hb d_P_pullBySpring_I_46 ?_
  refine va_lald hx hb hK G.1 3 0 rfl rfl (in_al (by rw [e2]; exact hb2) (by decide)) d_P_pullBySpring_I_47 ?_
  refine lv_aload_n hx hb d_P_pullBySpring_I_48 rfl (lv_at hl 3 rfl) ?_
  refine va_get (D := (dC, dI)) (ci := 1) (v := .ref (ad 3)) (C := R_P) (T := F_P) (N := 3) hx hb hts (fun w h => gm (i_P w h)) hown hK G.1 1 rfl rfl 0 (by decide) (hts _ (gm tw_46)) (fun _ h9 => h9) rfl d_P_pullBySpring_I_49 ?_
  refine lv_bipush (v := (8 : Int32)) hx hb d_P_pullBySpring_I_52 (by decide) ?_
  refine lv_iload_n hx hb d_P_pullBySpring_I_54 rfl (lv_at hl 2 rfl) ?_
  refine lv_iadd hx hb d_P_pullBySpring_I_55 ?_
  refine va_lald hx hb hK G.1 3 0 rfl rfl (in_al (by rw [e1]; exact hb1) (by decide)) d_P_pullBySpring_I_56 ?_
  refine pu_l (As := [.long (sR S ((8 : Int32) + v2).toNatClampNeg), .long (sR S ((8 : Int32) + v1).toNatClampNeg)]) (rest := []) ⟨hx, hb, hml, hown, hts⟩ (c_I_difference_JJ l _ (sR S ((8 : Int32) + v2).toNatClampNeg) (sR S ((8 : Int32) + v1).toNatClampNeg)) pu_pre (gw_call (k := 2) hts tw_188 tw_189 tw_5 tw_190 (by decide +kernel) rfl rfl ⟨Nat.le_of_ble_eq_true rfl, Nat.le_of_ble_eq_true rfl⟩) rfl hl.1 rfl (Nat.le_of_ble_eq_true rfl) ⟨Nat.zero_le _, Nat.zero_le _⟩ d_P_pullBySpring_I_57 ?_
  refine lv_topl (fun v4 e4 => ?_)
  refine lv_lstore (lv' := [(6, .long v4), (4, .long v3), (3, .int v2), (2, .int v1), (0, .ref (ad 1)), (1, .int x1)]) hx hb d_P_pullBySpring_I_60 hl (by decide) rfl (fun ls hl => ?_)
  refine lv_lload hx hb d_P_pullBySpring_I_62 (lv_at hl 1 rfl) ?_
  refine lv_lload hx hb d_P_pullBySpring_I_64 (lv_at hl 1 rfl) ?_
  refine lv_lload hx hb d_P_pullBySpring_I_66 (lv_at hl 0 rfl) ?_
  refine lv_lload hx hb d_P_pullBySpring_I_68 (lv_at hl 0 rfl) ?_
  refine pu_l (As := [.long v3, .long v3, .long v4, .long v4]) (rest := []) ⟨hx, hb, hml, hown, hts⟩ (c_I_products_JJJJ l _ v3 v3 v4 v4) pu_pre (gw_call (k := 4) hts tw_215 tw_216 tw_5 tw_217 (by decide +kernel) rfl rfl ⟨Nat.le_of_ble_eq_true rfl, Nat.le_of_ble_eq_true rfl⟩) rfl hl.1 rfl (Nat.le_of_ble_eq_true rfl) ⟨Nat.zero_le _, Nat.zero_le _⟩ d_P_pullBySpring_I_70 ?_
  refine pu_l (As := [.long (f_I_products_JJJJ v3 v3 v4 v4)]) (rest := []) ⟨hx, hb, hml, hown, hts⟩ (c_I_root_J l _ (f_I_products_JJJJ v3 v3 v4 v4)) pu_pre (gw_call (k := 1) hts tw_219 tw_220 tw_5 tw_221 (by decide +kernel) rfl rfl ⟨Nat.le_of_ble_eq_true rfl, Nat.le_of_ble_eq_true rfl⟩) rfl hl.1 rfl (Nat.le_of_ble_eq_true rfl) ⟨Nat.zero_le _, Nat.zero_le _⟩ d_P_pullBySpring_I_73 ?_
  refine lv_topl (fun v5 e5 => ?_)
  refine lv_lstore (lv' := [(8, .long v5), (6, .long v4), (4, .long v3), (3, .int v2), (2, .int v1), (0, .ref (ad 1)), (1, .int x1)]) hx hb d_P_pullBySpring_I_76 hl (by decide) rfl (fun ls hl => ?_)
  refine lv_lconst (v := (0 : Int64)) hx hb d_P_pullBySpring_I_78 (by decide) ?_
  refine lv_lload hx hb d_P_pullBySpring_I_79 (lv_at hl 0 rfl) ?_
  refine pu_i (As := [.long (0 : Int64), .long v5]) (rest := []) ⟨hx, hb, hml, hown, hts⟩ (c_I_less_JJ l _ (0 : Int64) v5) pu_pre (gw_call (k := 2) hts tw_230 tw_231 tw_5 tw_232 (by decide +kernel) rfl rfl ⟨Nat.le_of_ble_eq_true rfl, Nat.le_of_ble_eq_true rfl⟩) rfl hl.1 rfl (Nat.le_of_ble_eq_true rfl) ⟨Nat.zero_le _, Nat.zero_le _⟩ d_P_pullBySpring_I_81 ?_
  refine lv_if_ne (tgt := 88) hx hb d_P_pullBySpring_I_84 (by decide) (fun c6 => ?_) (fun c6 => ?_)
  · refine lv_aload_n hx hb d_P_pullBySpring_I_88 rfl (lv_at hl 5 rfl) ?_
    refine va_get (D := (dC, dI)) (ci := 1) (v := .ref (ad 3)) (C := R_P) (T := F_P) (N := 3) hx hb hts (fun w h => gm (i_P w h)) hown hK G.1 1 rfl rfl 0 (by decide) (hts _ (gm tw_46)) (fun _ h9 => h9) rfl d_P_pullBySpring_I_89 ?_
    refine lv_bipush (v := (16 : Int32)) hx hb d_P_pullBySpring_I_92 (by decide) ?_
    refine lv_iload_n hx hb d_P_pullBySpring_I_94 rfl (lv_at hl 3 rfl) ?_
    refine lv_iadd hx hb d_P_pullBySpring_I_95 ?_
    refine va_lald hx hb hK G.1 3 0 rfl rfl (in_al (by rw [e2]; exact hb2) (by decide)) d_P_pullBySpring_I_96 ?_
    refine lv_aload_n hx hb d_P_pullBySpring_I_97 rfl (lv_at hl 5 rfl) ?_
    refine va_get (D := (dC, dI)) (ci := 1) (v := .ref (ad 3)) (C := R_P) (T := F_P) (N := 3) hx hb hts (fun w h => gm (i_P w h)) hown hK G.1 1 rfl rfl 0 (by decide) (hts _ (gm tw_46)) (fun _ h9 => h9) rfl d_P_pullBySpring_I_98 ?_
    refine lv_bipush (v := (16 : Int32)) hx hb d_P_pullBySpring_I_101 (by decide) ?_
    refine lv_iload_n hx hb d_P_pullBySpring_I_103 rfl (lv_at hl 4 rfl) ?_
    refine lv_iadd hx hb d_P_pullBySpring_I_104 ?_
    refine va_lald hx hb hK G.1 3 0 rfl rfl (in_al (by rw [e1]; exact hb1) (by decide)) d_P_pullBySpring_I_105 ?_
    refine pu_l (As := [.long (sR S ((16 : Int32) + v2).toNatClampNeg), .long (sR S ((16 : Int32) + v1).toNatClampNeg)]) (rest := []) ⟨hx, hb, hml, hown, hts⟩ (c_I_difference_JJ l _ (sR S ((16 : Int32) + v2).toNatClampNeg) (sR S ((16 : Int32) + v1).toNatClampNeg)) pu_pre (gw_call (k := 2) hts tw_188 tw_189 tw_5 tw_190 (by decide +kernel) rfl rfl ⟨Nat.le_of_ble_eq_true rfl, Nat.le_of_ble_eq_true rfl⟩) rfl hl.1 rfl (Nat.le_of_ble_eq_true rfl) ⟨Nat.zero_le _, Nat.zero_le _⟩ d_P_pullBySpring_I_106 ?_
    refine lv_topl (fun v7 e7 => ?_)
    refine lv_lstore (lv' := [(10, .long v7), (8, .long v5), (6, .long v4), (4, .long v3), (3, .int v2), (2, .int v1), (0, .ref (ad 1)), (1, .int x1)]) hx hb d_P_pullBySpring_I_109 hl (by decide) rfl (fun ls hl => ?_)
    refine lv_aload_n hx hb d_P_pullBySpring_I_111 rfl (lv_at hl 6 rfl) ?_
    refine va_get (D := (dC, dI)) (ci := 1) (v := .ref (ad 3)) (C := R_P) (T := F_P) (N := 3) hx hb hts (fun w h => gm (i_P w h)) hown hK G.1 1 rfl rfl 0 (by decide) (hts _ (gm tw_46)) (fun _ h9 => h9) rfl d_P_pullBySpring_I_112 ?_
    refine lv_bipush (v := (24 : Int32)) hx hb d_P_pullBySpring_I_115 (by decide) ?_
    refine lv_iload_n hx hb d_P_pullBySpring_I_117 rfl (lv_at hl 4 rfl) ?_
    refine lv_iadd hx hb d_P_pullBySpring_I_118 ?_
    refine va_lald hx hb hK G.1 3 0 rfl rfl (in_al (by rw [e2]; exact hb2) (by decide)) d_P_pullBySpring_I_119 ?_
    refine lv_aload_n hx hb d_P_pullBySpring_I_120 rfl (lv_at hl 6 rfl) ?_
    refine va_get (D := (dC, dI)) (ci := 1) (v := .ref (ad 3)) (C := R_P) (T := F_P) (N := 3) hx hb hts (fun w h => gm (i_P w h)) hown hK G.1 1 rfl rfl 0 (by decide) (hts _ (gm tw_46)) (fun _ h9 => h9) rfl d_P_pullBySpring_I_121 ?_
    refine lv_bipush (v := (24 : Int32)) hx hb d_P_pullBySpring_I_124 (by decide) ?_
    refine lv_iload_n hx hb d_P_pullBySpring_I_126 rfl (lv_at hl 5 rfl) ?_
    refine lv_iadd hx hb d_P_pullBySpring_I_127 ?_
    refine va_lald hx hb hK G.1 3 0 rfl rfl (in_al (by rw [e1]; exact hb1) (by decide)) d_P_pullBySpring_I_128 ?_
    refine pu_l (As := [.long (sR S ((24 : Int32) + v2).toNatClampNeg), .long (sR S ((24 : Int32) + v1).toNatClampNeg)]) (rest := []) ⟨hx, hb, hml, hown, hts⟩ (c_I_difference_JJ l _ (sR S ((24 : Int32) + v2).toNatClampNeg) (sR S ((24 : Int32) + v1).toNatClampNeg)) pu_pre (gw_call (k := 2) hts tw_188 tw_189 tw_5 tw_190 (by decide +kernel) rfl rfl ⟨Nat.le_of_ble_eq_true rfl, Nat.le_of_ble_eq_true rfl⟩) rfl hl.1 rfl (Nat.le_of_ble_eq_true rfl) ⟨Nat.zero_le _, Nat.zero_le _⟩ d_P_pullBySpring_I_129 ?_
    refine lv_topl (fun v8 e8 => ?_)
    refine lv_lstore (lv' := [(12, .long v8), (10, .long v7), (8, .long v5), (6, .long v4), (4, .long v3), (3, .int v2), (2, .int v1), (0, .ref (ad 1)), (1, .int x1)]) hx hb d_P_pullBySpring_I_132 hl (by decide) rfl (fun ls hl => ?_)
    refine lv_aload_n hx hb d_P_pullBySpring_I_134 rfl (lv_at hl 7 rfl) ?_
    refine va_get (D := (dC, dI)) (ci := 1) (v := .ref (ad 5)) (C := R_P) (T := F_P) (N := 3) hx hb hts (fun w h => gm (i_P w h)) hown hK G.1 1 rfl rfl 2 (by decide) (hts _ (gm tw_48)) (fun _ h9 => h9) rfl d_P_pullBySpring_I_135 ?_
    refine lv_iload_n hx hb d_P_pullBySpring_I_138 rfl (lv_at hl 8 rfl) ?_
    refine hg_cl (As := [.int x1]) (rest := []) ⟨hx, hb, hml, hown, hts⟩ (c_S_stiffness_I l dC dI ad cJ cI S x1 hk_x1 _) (gw_callV (k := 1) hts tw_236 tw_237 tw_238 tw_3 tw_239 (by decide +kernel) rfl rfl ⟨Nat.le_of_ble_eq_true rfl, Nat.le_of_ble_eq_true rfl⟩) hK G hA (hx_T _ _) 2 5 rfl rfl rfl hl.1 rfl (Nat.le_of_ble_eq_true rfl) ⟨Nat.zero_le _, Nat.zero_le _⟩ d_P_pullBySpring_I_139 (fun H locs G => ?_)
    refine lv_lload hx hb d_P_pullBySpring_I_142 (lv_at hl 2 rfl) ?_
    refine lv_aload_n hx hb d_P_pullBySpring_I_144 rfl (lv_at hl 7 rfl) ?_
    refine va_get (D := (dC, dI)) (ci := 1) (v := .ref (ad 5)) (C := R_P) (T := F_P) (N := 3) hx hb hts (fun w h => gm (i_P w h)) hown hK G.1 1 rfl rfl 2 (by decide) (hts _ (gm tw_48)) (fun _ h9 => h9) rfl d_P_pullBySpring_I_145 ?_
    refine lv_iload_n hx hb d_P_pullBySpring_I_148 rfl (lv_at hl 8 rfl) ?_
    refine hg_cl (As := [.int x1]) (rest := [.long v5, .long (f_S_stiffness_I S x1)]) ⟨hx, hb, hml, hown, hts⟩ (c_S_length_I l dC dI ad cJ cI S x1 hk_x1 _) (gw_callV (k := 1) hts tw_240 tw_241 tw_242 tw_3 tw_243 (by decide +kernel) rfl rfl ⟨Nat.le_of_ble_eq_true rfl, Nat.le_of_ble_eq_true rfl⟩) hK G hA (hx_T _ _) 2 5 rfl rfl rfl hl.1 rfl (Nat.le_of_ble_eq_true rfl) ⟨Nat.zero_le _, Nat.zero_le _⟩ d_P_pullBySpring_I_149 (fun H locs G => ?_)
    refine pu_l (As := [.long v5, .long (f_S_length_I S x1)]) (rest := [.long (f_S_stiffness_I S x1)]) ⟨hx, hb, hml, hown, hts⟩ (c_I_difference_JJ l _ v5 (f_S_length_I S x1)) pu_pre (gw_call (k := 2) hts tw_188 tw_189 tw_5 tw_190 (by decide +kernel) rfl rfl ⟨Nat.le_of_ble_eq_true rfl, Nat.le_of_ble_eq_true rfl⟩) rfl hl.1 rfl (Nat.le_of_ble_eq_true rfl) ⟨Nat.zero_le _, Nat.zero_le _⟩ d_P_pullBySpring_I_152 ?_
    refine pu_l (As := [.long (f_S_stiffness_I S x1), .long (f_I_difference_JJ v5 (f_S_length_I S x1))]) (rest := []) ⟨hx, hb, hml, hown, hts⟩ (c_I_product_JJ l _ (f_S_stiffness_I S x1) (f_I_difference_JJ v5 (f_S_length_I S x1))) pu_pre (gw_call (k := 2) hts tw_174 tw_175 tw_5 tw_176 (by decide +kernel) rfl rfl ⟨Nat.le_of_ble_eq_true rfl, Nat.le_of_ble_eq_true rfl⟩) rfl hl.1 rfl (Nat.le_of_ble_eq_true rfl) ⟨Nat.zero_le _, Nat.zero_le _⟩ d_P_pullBySpring_I_155 ?_
    refine lv_topl (fun v9 e9 => ?_)
    refine lv_lstore (lv' := [(14, .long v9), (12, .long v8), (10, .long v7), (8, .long v5), (6, .long v4), (4, .long v3), (3, .int v2), (2, .int v1), (0, .ref (ad 1)), (1, .int x1)]) hx hb d_P_pullBySpring_I_158 hl (by decide) rfl (fun ls hl => ?_)
    refine lv_aload_n hx hb d_P_pullBySpring_I_160 rfl (lv_at hl 8 rfl) ?_
    refine va_get (D := (dC, dI)) (ci := 1) (v := .ref (ad 5)) (C := R_P) (T := F_P) (N := 3) hx hb hts (fun w h => gm (i_P w h)) hown hK G.1 1 rfl rfl 2 (by decide) (hts _ (gm tw_48)) (fun _ h9 => h9) rfl d_P_pullBySpring_I_161 ?_
    refine lv_iload_n hx hb d_P_pullBySpring_I_164 rfl (lv_at hl 9 rfl) ?_
    refine hg_cl (As := [.int x1]) (rest := []) ⟨hx, hb, hml, hown, hts⟩ (c_S_damping_I l dC dI ad cJ cI S x1 hk_x1 _) (gw_callV (k := 1) hts tw_244 tw_245 tw_246 tw_3 tw_247 (by decide +kernel) rfl rfl ⟨Nat.le_of_ble_eq_true rfl, Nat.le_of_ble_eq_true rfl⟩) hK G hA (hx_T _ _) 2 5 rfl rfl rfl hl.1 rfl (Nat.le_of_ble_eq_true rfl) ⟨Nat.zero_le _, Nat.zero_le _⟩ d_P_pullBySpring_I_165 (fun H locs G => ?_)
    refine lv_lload hx hb d_P_pullBySpring_I_168 (lv_at hl 2 rfl) ?_
    refine lv_lload hx hb d_P_pullBySpring_I_170 (lv_at hl 5 rfl) ?_
    refine lv_lload hx hb d_P_pullBySpring_I_172 (lv_at hl 1 rfl) ?_
    refine lv_lload hx hb d_P_pullBySpring_I_174 (lv_at hl 4 rfl) ?_
    refine pu_l (As := [.long v7, .long v3, .long v8, .long v4]) (rest := [.long (f_S_damping_I S x1)]) ⟨hx, hb, hml, hown, hts⟩ (c_I_products_JJJJ l _ v7 v3 v8 v4) pu_pre (gw_call (k := 4) hts tw_215 tw_216 tw_5 tw_217 (by decide +kernel) rfl rfl ⟨Nat.le_of_ble_eq_true rfl, Nat.le_of_ble_eq_true rfl⟩) rfl hl.1 rfl (Nat.le_of_ble_eq_true rfl) ⟨Nat.zero_le _, Nat.zero_le _⟩ d_P_pullBySpring_I_176 ?_
    refine pu_l (As := [.long (f_S_damping_I S x1), .long (f_I_products_JJJJ v7 v3 v8 v4)]) (rest := []) ⟨hx, hb, hml, hown, hts⟩ (c_I_product_JJ l _ (f_S_damping_I S x1) (f_I_products_JJJJ v7 v3 v8 v4)) pu_pre (gw_call (k := 2) hts tw_174 tw_175 tw_5 tw_176 (by decide +kernel) rfl rfl ⟨Nat.le_of_ble_eq_true rfl, Nat.le_of_ble_eq_true rfl⟩) rfl hl.1 rfl (Nat.le_of_ble_eq_true rfl) ⟨Nat.zero_le _, Nat.zero_le _⟩ d_P_pullBySpring_I_179 ?_
    refine lv_topl (fun v10 e10 => ?_)
    refine lv_lstore (lv' := [(16, .long v10), (14, .long v9), (12, .long v8), (10, .long v7), (8, .long v5), (6, .long v4), (4, .long v3), (3, .int v2), (2, .int v1), (0, .ref (ad 1)), (1, .int x1)]) hx hb d_P_pullBySpring_I_182 hl (by decide) rfl (fun ls hl => ?_)
    refine lv_lload hx hb d_P_pullBySpring_I_184 (lv_at hl 1 rfl) ?_
    refine lv_lload hx hb d_P_pullBySpring_I_186 (lv_at hl 4 rfl) ?_
    refine pu_l (As := [.long v9, .long v5]) (rest := []) ⟨hx, hb, hml, hown, hts⟩ (c_I_quotient_JJ l _ v9 v5) pu_pre (gw_call (k := 2) hts tw_248 tw_224 tw_5 tw_225 (by decide +kernel) rfl rfl ⟨Nat.le_of_ble_eq_true rfl, Nat.le_of_ble_eq_true rfl⟩) rfl hl.1 rfl (Nat.le_of_ble_eq_true rfl) ⟨Nat.zero_le _, Nat.zero_le _⟩ d_P_pullBySpring_I_188 ?_
    refine lv_lload hx hb d_P_pullBySpring_I_191 (lv_at hl 0 rfl) ?_
    refine lv_lload hx hb d_P_pullBySpring_I_193 (lv_at hl 4 rfl) ?_
    refine lv_lload hx hb d_P_pullBySpring_I_195 (lv_at hl 4 rfl) ?_
    refine pu_l (As := [.long v5, .long v5]) (rest := [.long v10, .long (f_I_quotient_JJ v9 v5)]) ⟨hx, hb, hml, hown, hts⟩ (c_I_product_JJ l _ v5 v5) pu_pre (gw_call (k := 2) hts tw_174 tw_175 tw_5 tw_176 (by decide +kernel) rfl rfl ⟨Nat.le_of_ble_eq_true rfl, Nat.le_of_ble_eq_true rfl⟩) rfl hl.1 rfl (Nat.le_of_ble_eq_true rfl) ⟨Nat.zero_le _, Nat.zero_le _⟩ d_P_pullBySpring_I_197 ?_
    refine pu_l (As := [.long v10, .long (f_I_product_JJ v5 v5)]) (rest := [.long (f_I_quotient_JJ v9 v5)]) ⟨hx, hb, hml, hown, hts⟩ (c_I_quotient_JJ l _ v10 (f_I_product_JJ v5 v5)) pu_pre (gw_call (k := 2) hts tw_248 tw_224 tw_5 tw_225 (by decide +kernel) rfl rfl ⟨Nat.le_of_ble_eq_true rfl, Nat.le_of_ble_eq_true rfl⟩) rfl hl.1 rfl (Nat.le_of_ble_eq_true rfl) ⟨Nat.zero_le _, Nat.zero_le _⟩ d_P_pullBySpring_I_200 ?_
    refine pu_l (As := [.long (f_I_quotient_JJ v9 v5), .long (f_I_quotient_JJ v10 (f_I_product_JJ v5 v5))]) (rest := []) ⟨hx, hb, hml, hown, hts⟩ (c_I_sum_JJ l _ (f_I_quotient_JJ v9 v5) (f_I_quotient_JJ v10 (f_I_product_JJ v5 v5))) pu_pre (gw_call (k := 2) hts tw_249 tw_192 tw_5 tw_193 (by decide +kernel) rfl rfl ⟨Nat.le_of_ble_eq_true rfl, Nat.le_of_ble_eq_true rfl⟩) rfl hl.1 rfl (Nat.le_of_ble_eq_true rfl) ⟨Nat.zero_le _, Nat.zero_le _⟩ d_P_pullBySpring_I_203 ?_
    refine lv_topl (fun v11 e11 => ?_)
    refine lv_lstore (lv' := [(18, .long v11), (16, .long v10), (14, .long v9), (12, .long v8), (10, .long v7), (8, .long v5), (6, .long v4), (4, .long v3), (3, .int v2), (2, .int v1), (0, .ref (ad 1)), (1, .int x1)]) hx hb d_P_pullBySpring_I_206 hl (by decide) rfl (fun ls hl => ?_)
    refine lv_lload hx hb d_P_pullBySpring_I_208 (lv_at hl 0 rfl) ?_
    refine lv_lload hx hb d_P_pullBySpring_I_210 (lv_at hl 7 rfl) ?_
    refine pu_l (As := [.long v11, .long v3]) (rest := []) ⟨hx, hb, hml, hown, hts⟩ (c_I_product_JJ l _ v11 v3) pu_pre (gw_call (k := 2) hts tw_174 tw_175 tw_5 tw_176 (by decide +kernel) rfl rfl ⟨Nat.le_of_ble_eq_true rfl, Nat.le_of_ble_eq_true rfl⟩) rfl hl.1 rfl (Nat.le_of_ble_eq_true rfl) ⟨Nat.zero_le _, Nat.zero_le _⟩ d_P_pullBySpring_I_212 ?_
    refine lv_topl (fun v12 e12 => ?_)
    refine lv_lstore (lv' := [(20, .long v12), (18, .long v11), (16, .long v10), (14, .long v9), (12, .long v8), (10, .long v7), (8, .long v5), (6, .long v4), (4, .long v3), (3, .int v2), (2, .int v1), (0, .ref (ad 1)), (1, .int x1)]) hx hb d_P_pullBySpring_I_215 hl (by decide) rfl (fun ls hl => ?_)
    refine lv_lload hx hb d_P_pullBySpring_I_217 (lv_at hl 1 rfl) ?_
    refine lv_lload hx hb d_P_pullBySpring_I_219 (lv_at hl 7 rfl) ?_
    refine pu_l (As := [.long v11, .long v4]) (rest := []) ⟨hx, hb, hml, hown, hts⟩ (c_I_product_JJ l _ v11 v4) pu_pre (gw_call (k := 2) hts tw_174 tw_175 tw_5 tw_176 (by decide +kernel) rfl rfl ⟨Nat.le_of_ble_eq_true rfl, Nat.le_of_ble_eq_true rfl⟩) rfl hl.1 rfl (Nat.le_of_ble_eq_true rfl) ⟨Nat.zero_le _, Nat.zero_le _⟩ d_P_pullBySpring_I_221 ?_
    refine lv_topl (fun v13 e13 => ?_)
    refine lv_lstore (lv' := [(22, .long v13), (20, .long v12), (18, .long v11), (16, .long v10), (14, .long v9), (12, .long v8), (10, .long v7), (8, .long v5), (6, .long v4), (4, .long v3), (3, .int v2), (2, .int v1), (0, .ref (ad 1)), (1, .int x1)]) hx hb d_P_pullBySpring_I_224 hl (by decide) rfl (fun ls hl => ?_)
    refine lv_aload_n hx hb d_P_pullBySpring_I_226 rfl (lv_at hl 12 rfl) ?_
    refine va_get (D := (dC, dI)) (ci := 1) (v := .ref (ad 3)) (C := R_P) (T := F_P) (N := 3) hx hb hts (fun w h => gm (i_P w h)) hown hK G.1 1 rfl rfl 0 (by decide) (hts _ (gm tw_46)) (fun _ h9 => h9) rfl d_P_pullBySpring_I_227 ?_
    refine lv_bipush (v := (48 : Int32)) hx hb d_P_pullBySpring_I_230 (by decide) ?_
    refine lv_iload_n hx hb d_P_pullBySpring_I_232 rfl (lv_at hl 11 rfl) ?_
    refine lv_iadd hx hb d_P_pullBySpring_I_233 ?_
    refine lv_aload_n hx hb d_P_pullBySpring_I_234 rfl (lv_at hl 12 rfl) ?_
    refine va_get (D := (dC, dI)) (ci := 1) (v := .ref (ad 3)) (C := R_P) (T := F_P) (N := 3) hx hb hts (fun w h => gm (i_P w h)) hown hK G.1 1 rfl rfl 0 (by decide) (hts _ (gm tw_46)) (fun _ h9 => h9) rfl d_P_pullBySpring_I_235 ?_
    refine lv_bipush (v := (48 : Int32)) hx hb d_P_pullBySpring_I_238 (by decide) ?_
    refine lv_iload_n hx hb d_P_pullBySpring_I_240 rfl (lv_at hl 11 rfl) ?_
    refine lv_iadd hx hb d_P_pullBySpring_I_241 ?_
    refine va_lald hx hb hK G.1 3 0 rfl rfl (in_al (by rw [e1]; exact hb1) (by decide)) d_P_pullBySpring_I_242 ?_
    refine lv_lload hx hb d_P_pullBySpring_I_243 (lv_at hl 1 rfl) ?_
    refine pu_l (As := [.long (sR S ((48 : Int32) + v1).toNatClampNeg), .long v12]) (rest := [.int ((48 : Int32) + v1), .ref (ad 3)]) ⟨hx, hb, hml, hown, hts⟩ (c_I_sum_JJ l _ (sR S ((48 : Int32) + v1).toNatClampNeg) v12) pu_pre (gw_call (k := 2) hts tw_249 tw_192 tw_5 tw_193 (by decide +kernel) rfl rfl ⟨Nat.le_of_ble_eq_true rfl, Nat.le_of_ble_eq_true rfl⟩) rfl hl.1 rfl (Nat.le_of_ble_eq_true rfl) ⟨Nat.zero_le _, Nat.zero_le _⟩ d_P_pullBySpring_I_245 ?_
    obtain ⟨S14, e14⟩ : ∃ z : CS, z = u_sR S (vp_updL (sR S) ((48 : Int32) + v1).toNatClampNeg (f_I_sum_JJ (sR S ((48 : Int32) + v1).toNatClampNeg) v12)) := ⟨_, rfl⟩
    refine hg_last hx hb hK G 3 0 rfl rfl (in_al (by rw [e1]; exact hb1) (by decide)) d_P_pullBySpring_I_248 (cW ad cJ cI S14) (by rw [e14]; rfl) (fun H locs G => ?_)
    refine lv_aload_n hx hb d_P_pullBySpring_I_249 rfl (lv_at hl 12 rfl) ?_
    refine va_get (D := (dC, dI)) (ci := 1) (v := .ref (ad 3)) (C := R_P) (T := F_P) (N := 3) hx hb hts (fun w h => gm (i_P w h)) hown hK G.1 1 rfl rfl 0 (by decide) (hts _ (gm tw_46)) (fun _ h9 => h9) rfl d_P_pullBySpring_I_250 ?_
    refine lv_bipush (v := (56 : Int32)) hx hb d_P_pullBySpring_I_253 (by decide) ?_
    refine lv_iload_n hx hb d_P_pullBySpring_I_255 rfl (lv_at hl 11 rfl) ?_
    refine lv_iadd hx hb d_P_pullBySpring_I_256 ?_
    refine lv_aload_n hx hb d_P_pullBySpring_I_257 rfl (lv_at hl 12 rfl) ?_
    refine va_get (D := (dC, dI)) (ci := 1) (v := .ref (ad 3)) (C := R_P) (T := F_P) (N := 3) hx hb hts (fun w h => gm (i_P w h)) hown hK G.1 1 rfl rfl 0 (by decide) (hts _ (gm tw_46)) (fun _ h9 => h9) rfl d_P_pullBySpring_I_258 ?_
    refine lv_bipush (v := (56 : Int32)) hx hb d_P_pullBySpring_I_261 (by decide) ?_
    refine lv_iload_n hx hb d_P_pullBySpring_I_263 rfl (lv_at hl 11 rfl) ?_
    refine lv_iadd hx hb d_P_pullBySpring_I_264 ?_
    refine va_lald hx hb hK G.1 3 0 rfl rfl (in_al (by rw [e1]; exact hb1) (by decide)) d_P_pullBySpring_I_265 ?_
    refine lv_lload hx hb d_P_pullBySpring_I_266 (lv_at hl 0 rfl) ?_
    refine pu_l (As := [.long (sR S14 ((56 : Int32) + v1).toNatClampNeg), .long v13]) (rest := [.int ((56 : Int32) + v1), .ref (ad 3)]) ⟨hx, hb, hml, hown, hts⟩ (c_I_sum_JJ l _ (sR S14 ((56 : Int32) + v1).toNatClampNeg) v13) pu_pre (gw_call (k := 2) hts tw_249 tw_192 tw_5 tw_193 (by decide +kernel) rfl rfl ⟨Nat.le_of_ble_eq_true rfl, Nat.le_of_ble_eq_true rfl⟩) rfl hl.1 rfl (Nat.le_of_ble_eq_true rfl) ⟨Nat.zero_le _, Nat.zero_le _⟩ d_P_pullBySpring_I_268 ?_
    obtain ⟨S15, e15⟩ : ∃ z : CS, z = u_sR S14 (vp_updL (sR S14) ((56 : Int32) + v1).toNatClampNeg (f_I_sum_JJ (sR S14 ((56 : Int32) + v1).toNatClampNeg) v13)) := ⟨_, rfl⟩
    refine hg_last hx hb hK G 3 0 rfl rfl (in_al (by rw [e1]; exact hb1) (by decide)) d_P_pullBySpring_I_271 (cW ad cJ cI S15) (by rw [e15]; rfl) (fun H locs G => ?_)
    refine lv_aload_n hx hb d_P_pullBySpring_I_272 rfl (lv_at hl 12 rfl) ?_
    refine va_get (D := (dC, dI)) (ci := 1) (v := .ref (ad 3)) (C := R_P) (T := F_P) (N := 3) hx hb hts (fun w h => gm (i_P w h)) hown hK G.1 1 rfl rfl 0 (by decide) (hts _ (gm tw_46)) (fun _ h9 => h9) rfl d_P_pullBySpring_I_273 ?_
    refine lv_bipush (v := (48 : Int32)) hx hb d_P_pullBySpring_I_276 (by decide) ?_
    refine lv_iload_n hx hb d_P_pullBySpring_I_278 rfl (lv_at hl 10 rfl) ?_
    refine lv_iadd hx hb d_P_pullBySpring_I_279 ?_
    refine lv_aload_n hx hb d_P_pullBySpring_I_280 rfl (lv_at hl 12 rfl) ?_
    refine va_get (D := (dC, dI)) (ci := 1) (v := .ref (ad 3)) (C := R_P) (T := F_P) (N := 3) hx hb hts (fun w h => gm (i_P w h)) hown hK G.1 1 rfl rfl 0 (by decide) (hts _ (gm tw_46)) (fun _ h9 => h9) rfl d_P_pullBySpring_I_281 ?_
    refine lv_bipush (v := (48 : Int32)) hx hb d_P_pullBySpring_I_284 (by decide) ?_
    refine lv_iload_n hx hb d_P_pullBySpring_I_286 rfl (lv_at hl 10 rfl) ?_
    refine lv_iadd hx hb d_P_pullBySpring_I_287 ?_
    refine va_lald hx hb hK G.1 3 0 rfl rfl (in_al (by rw [e2]; exact hb2) (by decide)) d_P_pullBySpring_I_288 ?_
    refine lv_lload hx hb d_P_pullBySpring_I_289 (lv_at hl 1 rfl) ?_
    refine pu_l (As := [.long (sR S15 ((48 : Int32) + v2).toNatClampNeg), .long v12]) (rest := [.int ((48 : Int32) + v2), .ref (ad 3)]) ⟨hx, hb, hml, hown, hts⟩ (c_I_difference_JJ l _ (sR S15 ((48 : Int32) + v2).toNatClampNeg) v12) pu_pre (gw_call (k := 2) hts tw_188 tw_189 tw_5 tw_190 (by decide +kernel) rfl rfl ⟨Nat.le_of_ble_eq_true rfl, Nat.le_of_ble_eq_true rfl⟩) rfl hl.1 rfl (Nat.le_of_ble_eq_true rfl) ⟨Nat.zero_le _, Nat.zero_le _⟩ d_P_pullBySpring_I_291 ?_
    obtain ⟨S16, e16⟩ : ∃ z : CS, z = u_sR S15 (vp_updL (sR S15) ((48 : Int32) + v2).toNatClampNeg (f_I_difference_JJ (sR S15 ((48 : Int32) + v2).toNatClampNeg) v12)) := ⟨_, rfl⟩
    refine hg_last hx hb hK G 3 0 rfl rfl (in_al (by rw [e2]; exact hb2) (by decide)) d_P_pullBySpring_I_294 (cW ad cJ cI S16) (by rw [e16]; rfl) (fun H locs G => ?_)
    refine lv_aload_n hx hb d_P_pullBySpring_I_295 rfl (lv_at hl 12 rfl) ?_
    refine va_get (D := (dC, dI)) (ci := 1) (v := .ref (ad 3)) (C := R_P) (T := F_P) (N := 3) hx hb hts (fun w h => gm (i_P w h)) hown hK G.1 1 rfl rfl 0 (by decide) (hts _ (gm tw_46)) (fun _ h9 => h9) rfl d_P_pullBySpring_I_296 ?_
    refine lv_bipush (v := (56 : Int32)) hx hb d_P_pullBySpring_I_299 (by decide) ?_
    refine lv_iload_n hx hb d_P_pullBySpring_I_301 rfl (lv_at hl 10 rfl) ?_
    refine lv_iadd hx hb d_P_pullBySpring_I_302 ?_
    refine lv_aload_n hx hb d_P_pullBySpring_I_303 rfl (lv_at hl 12 rfl) ?_
    refine va_get (D := (dC, dI)) (ci := 1) (v := .ref (ad 3)) (C := R_P) (T := F_P) (N := 3) hx hb hts (fun w h => gm (i_P w h)) hown hK G.1 1 rfl rfl 0 (by decide) (hts _ (gm tw_46)) (fun _ h9 => h9) rfl d_P_pullBySpring_I_304 ?_
    refine lv_bipush (v := (56 : Int32)) hx hb d_P_pullBySpring_I_307 (by decide) ?_
    refine lv_iload_n hx hb d_P_pullBySpring_I_309 rfl (lv_at hl 10 rfl) ?_
    refine lv_iadd hx hb d_P_pullBySpring_I_310 ?_
    refine va_lald hx hb hK G.1 3 0 rfl rfl (in_al (by rw [e2]; exact hb2) (by decide)) d_P_pullBySpring_I_311 ?_
    refine lv_lload hx hb d_P_pullBySpring_I_312 (lv_at hl 0 rfl) ?_
    refine pu_l (As := [.long (sR S16 ((56 : Int32) + v2).toNatClampNeg), .long v13]) (rest := [.int ((56 : Int32) + v2), .ref (ad 3)]) ⟨hx, hb, hml, hown, hts⟩ (c_I_difference_JJ l _ (sR S16 ((56 : Int32) + v2).toNatClampNeg) v13) pu_pre (gw_call (k := 2) hts tw_188 tw_189 tw_5 tw_190 (by decide +kernel) rfl rfl ⟨Nat.le_of_ble_eq_true rfl, Nat.le_of_ble_eq_true rfl⟩) rfl hl.1 rfl (Nat.le_of_ble_eq_true rfl) ⟨Nat.zero_le _, Nat.zero_le _⟩ d_P_pullBySpring_I_314 ?_
    obtain ⟨S17, e17⟩ : ∃ z : CS, z = u_sR S16 (vp_updL (sR S16) ((56 : Int32) + v2).toNatClampNeg (f_I_difference_JJ (sR S16 ((56 : Int32) + v2).toNatClampNeg) v13)) := ⟨_, rfl⟩
    refine hg_last hx hb hK G 3 0 rfl rfl (in_al (by rw [e2]; exact hb2) (by decide)) d_P_pullBySpring_I_317 (cW ad cJ cI S17) (by rw [e17]; rfl) (fun H locs G => ?_)
    exact hg_vret hx hb hr hlocks hK hAe G (by have qe1 := e1.symm; have qe2 := e2.symm; have qe3 := e3.symm; have qe4 := e4.symm; have qe5 := e5.symm; have qe7 := e7.symm; have qe8 := e8.symm; have qe9 := e9.symm; have qe10 := e10.symm; have qe11 := e11.symm; have qe12 := e12.symm; have qe13 := e13.symm; have qe14 := e14.symm; have qe15 := e15.symm; have qe16 := e16.symm; have qe17 := e17.symm; subst qe1 qe2 qe3 qe4 qe5 qe7 qe8 qe9 qe10 qe11 qe12 qe13 qe14 qe15 qe16 qe17; have e9 : f_P_pullBySpring_I S x1 = _ := (if_neg c6); exact Eq.symm (congrArg (cW ad cJ cI) e9)) d_P_pullBySpring_I_318
  · exact hg_vret hx hb hr hlocks hK hAe G (by have qe1 := e1.symm; have qe2 := e2.symm; have qe3 := e3.symm; have qe4 := e4.symm; have qe5 := e5.symm; subst qe1 qe2 qe3 qe4 qe5; have e9 : f_P_pullBySpring_I S x1 = _ := (if_pos c6); exact Eq.symm (congrArg (cW ad cJ cI) e9)) d_P_pullBySpring_I_87
theorem kp_pull (S : CS) (x : Int32) : sB (f_P_pullBySpring_I S x) = sB S ∧ sC (f_P_pullBySpring_I S x) = sC S := by unfold f_P_pullBySpring_I; dsimp only; split <;> exact ⟨rfl, rfl⟩
-- ===== MotionLab$Plane.afterDt(JJ)J 
abbrev y_P_afterDt_JJ : MethodName := ⟨"MotionLab$Plane", "afterDt", "(JJ)J"⟩
abbrev b_P_afterDt_JJ : ByteArray := prog_3_method_15_code
theorem d_P_afterDt_JJ_0 : decode b_P_afterDt_JJ 0 = .ok (.lload_n 1, 1) := by decide +kernel
theorem d_P_afterDt_JJ_1 : decode b_P_afterDt_JJ 1 = .ok (.lload_n 3, 1) := by decide +kernel
theorem d_P_afterDt_JJ_2 : decode b_P_afterDt_JJ 2 = .ok (.aload_n 0, 1) := by decide +kernel
theorem d_P_afterDt_JJ_3 : decode b_P_afterDt_JJ 3 = .ok (.getfield 13, 3) := by decide +kernel
theorem d_P_afterDt_JJ_6 : decode b_P_afterDt_JJ 6 = .ok (.iconst 3, 1) := by decide +kernel
theorem d_P_afterDt_JJ_7 : decode b_P_afterDt_JJ 7 = .ok (.laload, 1) := by decide +kernel
theorem d_P_afterDt_JJ_8 : decode b_P_afterDt_JJ 8 = .ok (.invokestatic 86, 3) := by decide +kernel
theorem d_P_afterDt_JJ_11 : decode b_P_afterDt_JJ 11 = .ok (.invokestatic 63, 3) := by decide +kernel
theorem d_P_afterDt_JJ_14 : decode b_P_afterDt_JJ 14 = .ok (.lreturn, 1) := by decide +kernel
def f_P_afterDt_JJ (S : CS) (x1 : Int64) (x3 : Int64) : Int64 :=
  f_I_sum_JJ x1 (f_I_product_JJ x3 (sF S (3 : Int32).toNatClampNeg))
set_option maxHeartbeats 4000000 in
set_option maxRecDepth 100000 in
theorem c_P_afterDt_JJ (l : Launch) (dC : Nat → ClassId) (dI : Nat → Nat → Nat) (ad : Nat → Nat) (cJ cI : ClassId) (S : CS) (x1 : Int64) (x3 : Int64) (sz : Nat) : hMl l y_P_afterDt_JJ (gw y_P_afterDt_JJ b_P_afterDt_JJ 5 (some .long)) { frames := 4, cells := 0, slots := 0, locals := 104 } [.ref (ad 1), .long x1, .long x3] (dC, dI) classes (tysJI cJ cI) (fun _ => True) (cW ad cJ cI S) sz (f_P_afterDt_JJ S x1 x3) (cW ad cJ cI S) := by
  refine Met.ofW (cc := b_P_afterDt_JJ) (maxL := 5) (ret := (some .long)) (by decide) rfl ?_
  intro p e s m args below meth c s₁ B hml hv
  obtain ⟨rfl, hsz, hP, hK, hD0, hRT⟩ := hv
  have hx := B.exec
  have hb := B.bytes
  have hr := B.returns
  have hts := atoms_spec (ws := (gw y_P_afterDt_JJ b_P_afterDt_JJ 5 (some .long))) B.pre
  have hown : s.vm.findClass "MotionLab$Plane" = some m.cls := findClass_of_methodNamed B.named
  have hlocks := B.notSynchronized
  subst hsz
  have hD := hD0.self (sz := s.heap.size)
  generalize hAe : va_A (cW ad cJ cI S) s.heap.size = A at hD
  have hA : ∀ q : Nat, s.heap.size ≤ q → A q := fun q h => by rw [← hAe]; exact Or.inr h
  have G : hG (dC, dI) classes A s.heap (cW ad cJ cI S) s.heap [] := ⟨hP, hD, va_S.rf⟩
  have hl := lv_entry ([.ref (ad 1), .long x1, .long x3]) (n := 5) (Nat.le_of_ble_eq_true rfl)
  rw [lg_entry_eq]
  generalize (lg_sl ([.ref (ad 1), .long x1, .long x3]) ++ List.replicate (5 - (lg_sl ([.ref (ad 1), .long x1, .long x3])).length) Slot.unset).toArray = ls at hl ⊢
  have hl : lv_has ls 5 [(0, .ref (ad 1)), (1, .long x1), (3, .long x3)] := hl
  refine lv_lload_n hx hb d_P_afterDt_JJ_0 rfl (lv_at hl 1 rfl) ?_
  refine lv_lload_n hx hb d_P_afterDt_JJ_1 rfl (lv_at hl 2 rfl) ?_
  refine lv_aload_n hx hb d_P_afterDt_JJ_2 rfl (lv_at hl 0 rfl) ?_
  refine va_get (D := (dC, dI)) (ci := 1) (v := .ref (ad 4)) (C := R_P) (T := F_P) (N := 3) hx hb hts (fun w h => gm (i_P w h)) hown hK G.1 1 rfl rfl 1 (by decide) (hts _ (gm tw_47)) (fun _ h9 => h9) rfl d_P_afterDt_JJ_3 ?_
  refine lv_iconst (v := 3) hx hb d_P_afterDt_JJ_6 (by decide) ?_
  refine va_lald hx hb hK G.1 4 0 rfl rfl (in_of (by decide) (by decide)) d_P_afterDt_JJ_7 ?_
  refine pu_l (As := [.long x3, .long (sF S (3 : Int32).toNatClampNeg)]) (rest := [.long x1]) ⟨hx, hb, hml, hown, hts⟩ (c_I_product_JJ l _ x3 (sF S (3 : Int32).toNatClampNeg)) pu_pre (gw_call (k := 2) hts tw_174 tw_175 tw_5 tw_176 (by decide +kernel) rfl rfl ⟨Nat.le_of_ble_eq_true rfl, Nat.le_of_ble_eq_true rfl⟩) rfl hl.1 rfl (Nat.le_of_ble_eq_true rfl) ⟨Nat.zero_le _, Nat.zero_le _⟩ d_P_afterDt_JJ_8 ?_
  refine pu_l (As := [.long x1, .long (f_I_product_JJ x3 (sF S (3 : Int32).toNatClampNeg))]) (rest := []) ⟨hx, hb, hml, hown, hts⟩ (c_I_sum_JJ l _ x1 (f_I_product_JJ x3 (sF S (3 : Int32).toNatClampNeg))) pu_pre (gw_call (k := 2) hts tw_249 tw_192 tw_5 tw_193 (by decide +kernel) rfl rfl ⟨Nat.le_of_ble_eq_true rfl, Nat.le_of_ble_eq_true rfl⟩) rfl hl.1 rfl (Nat.le_of_ble_eq_true rfl) ⟨Nat.zero_le _, Nat.zero_le _⟩ d_P_afterDt_JJ_11 ?_
  exact hg_lret hx hb hr hlocks hK hAe G (by exact ⟨rfl, rfl⟩) d_P_afterDt_JJ_14
