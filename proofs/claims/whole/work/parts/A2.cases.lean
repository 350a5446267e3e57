theorem tw_64 : (Jvm.Cond.methodLink "MotionLabLaw" (15 : Nat) ({ cls := "MotionLab", name := "body", desc := "(IIJ)I" } : Jvm.MethodName)) ∈ lw_g := List.mem_filter.mpr ⟨List.mem_append_right _ (List.mem_of_getElem? (i := 64) (by decide +kernel)), by decide +kernel⟩
theorem tw_65 : (Jvm.Cond.instanceMethod ({ cls := "MotionLab", name := "body", desc := "(IIJ)I" } : Jvm.MethodName)) ∈ lw_g := List.mem_filter.mpr ⟨List.mem_append_right _ (List.mem_of_getElem? (i := 65) (by decide +kernel)), by decide +kernel⟩
theorem tw_66 : (Jvm.Cond.selects "MotionLab" ({ cls := "MotionLab", name := "body", desc := "(IIJ)I" } : Jvm.MethodName) ({ cls := "MotionLab", name := "body", desc := "(IIJ)I" } : Jvm.MethodName)) ∈ lw_g := List.mem_filter.mpr ⟨List.mem_append_right _ (List.mem_of_getElem? (i := 66) (by decide +kernel)), by decide +kernel⟩
theorem tw_67 : (Jvm.Cond.code ({ cls := "MotionLab", name := "body", desc := "(IIJ)I" } : Jvm.MethodName) prog_1_method_2_code (5 : Nat) (Option.some Jvm.ClassFile.FieldType.int)) ∈ lw_g := List.mem_filter.mpr ⟨List.mem_append_right _ (List.mem_of_getElem? (i := 67) (by decide +kernel)), by decide +kernel⟩
theorem tw_123 : (Jvm.Cond.methodLink "MotionLabLaw" (20 : Nat) ({ cls := "MotionLab", name := "field", desc := "(IJ)I" } : Jvm.MethodName)) ∈ lw_g := List.mem_filter.mpr ⟨List.mem_append_right _ (List.mem_of_getElem? (i := 123) (by decide +kernel)), by decide +kernel⟩
theorem tw_124 : (Jvm.Cond.instanceMethod ({ cls := "MotionLab", name := "field", desc := "(IJ)I" } : Jvm.MethodName)) ∈ lw_g := List.mem_filter.mpr ⟨List.mem_append_right _ (List.mem_of_getElem? (i := 124) (by decide +kernel)), by decide +kernel⟩
theorem tw_125 : (Jvm.Cond.selects "MotionLab" ({ cls := "MotionLab", name := "field", desc := "(IJ)I" } : Jvm.MethodName) ({ cls := "MotionLab", name := "field", desc := "(IJ)I" } : Jvm.MethodName)) ∈ lw_g := List.mem_filter.mpr ⟨List.mem_append_right _ (List.mem_of_getElem? (i := 125) (by decide +kernel)), by decide +kernel⟩
theorem tw_126 : (Jvm.Cond.code ({ cls := "MotionLab", name := "field", desc := "(IJ)I" } : Jvm.MethodName) prog_1_method_3_code (4 : Nat) (Option.some Jvm.ClassFile.FieldType.int)) ∈ lw_g := List.mem_filter.mpr ⟨List.mem_append_right _ (List.mem_of_getElem? (i := 126) (by decide +kernel)), by decide +kernel⟩
theorem tw_134 : (Jvm.Cond.methodLink "MotionLabLaw" (25 : Nat) ({ cls := "MotionLab", name := "spring", desc := "(IIIII)I" } : Jvm.MethodName)) ∈ lw_g := List.mem_filter.mpr ⟨List.mem_append_right _ (List.mem_of_getElem? (i := 134) (by decide +kernel)), by decide +kernel⟩
theorem tw_135 : (Jvm.Cond.instanceMethod ({ cls := "MotionLab", name := "spring", desc := "(IIIII)I" } : Jvm.MethodName)) ∈ lw_g := List.mem_filter.mpr ⟨List.mem_append_right _ (List.mem_of_getElem? (i := 135) (by decide +kernel)), by decide +kernel⟩
theorem tw_136 : (Jvm.Cond.selects "MotionLab" ({ cls := "MotionLab", name := "spring", desc := "(IIIII)I" } : Jvm.MethodName) ({ cls := "MotionLab", name := "spring", desc := "(IIIII)I" } : Jvm.MethodName)) ∈ lw_g := List.mem_filter.mpr ⟨List.mem_append_right _ (List.mem_of_getElem? (i := 136) (by decide +kernel)), by decide +kernel⟩
theorem tw_137 : (Jvm.Cond.code ({ cls := "MotionLab", name := "spring", desc := "(IIIII)I" } : Jvm.MethodName) prog_1_method_4_code (6 : Nat) (Option.some Jvm.ClassFile.FieldType.int)) ∈ lw_g := List.mem_filter.mpr ⟨List.mem_append_right _ (List.mem_of_getElem? (i := 137) (by decide +kernel)), by decide +kernel⟩
theorem tw_154 : (Jvm.Cond.methodLink "MotionLabLaw" (30 : Nat) ({ cls := "MotionLab", name := "cut", desc := "()I" } : Jvm.MethodName)) ∈ lw_g := List.mem_filter.mpr ⟨List.mem_append_right _ (List.mem_of_getElem? (i := 154) (by decide +kernel)), by decide +kernel⟩
theorem tw_155 : (Jvm.Cond.instanceMethod ({ cls := "MotionLab", name := "cut", desc := "()I" } : Jvm.MethodName)) ∈ lw_g := List.mem_filter.mpr ⟨List.mem_append_right _ (List.mem_of_getElem? (i := 155) (by decide +kernel)), by decide +kernel⟩
theorem tw_156 : (Jvm.Cond.selects "MotionLab" ({ cls := "MotionLab", name := "cut", desc := "()I" } : Jvm.MethodName) ({ cls := "MotionLab", name := "cut", desc := "()I" } : Jvm.MethodName)) ∈ lw_g := List.mem_filter.mpr ⟨List.mem_append_right _ (List.mem_of_getElem? (i := 156) (by decide +kernel)), by decide +kernel⟩
theorem tw_157 : (Jvm.Cond.code ({ cls := "MotionLab", name := "cut", desc := "()I" } : Jvm.MethodName) prog_1_method_5_code (1 : Nat) (Option.some Jvm.ClassFile.FieldType.int)) ∈ lw_g := List.mem_filter.mpr ⟨List.mem_append_right _ (List.mem_of_getElem? (i := 157) (by decide +kernel)), by decide +kernel⟩
theorem tw_162 : (Jvm.Cond.methodLink "MotionLabLaw" (35 : Nat) ({ cls := "MotionLab", name := "step", desc := "(I)I" } : Jvm.MethodName)) ∈ lw_g := List.mem_filter.mpr ⟨List.mem_append_right _ (List.mem_of_getElem? (i := 162) (by decide +kernel)), by decide +kernel⟩
theorem tw_163 : (Jvm.Cond.instanceMethod ({ cls := "MotionLab", name := "step", desc := "(I)I" } : Jvm.MethodName)) ∈ lw_g := List.mem_filter.mpr ⟨List.mem_append_right _ (List.mem_of_getElem? (i := 163) (by decide +kernel)), by decide +kernel⟩
theorem tw_164 : (Jvm.Cond.selects "MotionLab" ({ cls := "MotionLab", name := "step", desc := "(I)I" } : Jvm.MethodName) ({ cls := "MotionLab", name := "step", desc := "(I)I" } : Jvm.MethodName)) ∈ lw_g := List.mem_filter.mpr ⟨List.mem_append_right _ (List.mem_of_getElem? (i := 164) (by decide +kernel)), by decide +kernel⟩
theorem tw_165 : (Jvm.Cond.code ({ cls := "MotionLab", name := "step", desc := "(I)I" } : Jvm.MethodName) prog_1_method_6_code (3 : Nat) (Option.some Jvm.ClassFile.FieldType.int)) ∈ lw_g := List.mem_filter.mpr ⟨List.mem_append_right _ (List.mem_of_getElem? (i := 165) (by decide +kernel)), by decide +kernel⟩
theorem tw_270 : (Jvm.Cond.methodLink "MotionLabLaw" (40 : Nat) ({ cls := "MotionLab", name := "tell", desc := "(II)J" } : Jvm.MethodName)) ∈ lw_g := List.mem_filter.mpr ⟨List.mem_append_right _ (List.mem_of_getElem? (i := 270) (by decide +kernel)), by decide +kernel⟩
theorem tw_271 : (Jvm.Cond.instanceMethod ({ cls := "MotionLab", name := "tell", desc := "(II)J" } : Jvm.MethodName)) ∈ lw_g := List.mem_filter.mpr ⟨List.mem_append_right _ (List.mem_of_getElem? (i := 271) (by decide +kernel)), by decide +kernel⟩
theorem tw_272 : (Jvm.Cond.selects "MotionLab" ({ cls := "MotionLab", name := "tell", desc := "(II)J" } : Jvm.MethodName) ({ cls := "MotionLab", name := "tell", desc := "(II)J" } : Jvm.MethodName)) ∈ lw_g := List.mem_filter.mpr ⟨List.mem_append_right _ (List.mem_of_getElem? (i := 272) (by decide +kernel)), by decide +kernel⟩
theorem tw_273 : (Jvm.Cond.code ({ cls := "MotionLab", name := "tell", desc := "(II)J" } : Jvm.MethodName) prog_1_method_7_code (3 : Nat) (Option.some Jvm.ClassFile.FieldType.long)) ∈ lw_g := List.mem_filter.mpr ⟨List.mem_append_right _ (List.mem_of_getElem? (i := 273) (by decide +kernel)), by decide +kernel⟩
theorem tw_278 : (Jvm.Cond.methodLink "MotionLabLaw" (45 : Nat) ({ cls := "MotionLab", name := "about", desc := "(I)J" } : Jvm.MethodName)) ∈ lw_g := List.mem_filter.mpr ⟨List.mem_append_right _ (List.mem_of_getElem? (i := 278) (by decide +kernel)), by decide +kernel⟩
theorem tw_279 : (Jvm.Cond.instanceMethod ({ cls := "MotionLab", name := "about", desc := "(I)J" } : Jvm.MethodName)) ∈ lw_g := List.mem_filter.mpr ⟨List.mem_append_right _ (List.mem_of_getElem? (i := 279) (by decide +kernel)), by decide +kernel⟩
theorem tw_280 : (Jvm.Cond.selects "MotionLab" ({ cls := "MotionLab", name := "about", desc := "(I)J" } : Jvm.MethodName) ({ cls := "MotionLab", name := "about", desc := "(I)J" } : Jvm.MethodName)) ∈ lw_g := List.mem_filter.mpr ⟨List.mem_append_right _ (List.mem_of_getElem? (i := 280) (by decide +kernel)), by decide +kernel⟩
theorem tw_281 : (Jvm.Cond.code ({ cls := "MotionLab", name := "about", desc := "(I)J" } : Jvm.MethodName) prog_1_method_8_code (2 : Nat) (Option.some Jvm.ClassFile.FieldType.long)) ∈ lw_g := List.mem_filter.mpr ⟨List.mem_append_right _ (List.mem_of_getElem? (i := 281) (by decide +kernel)), by decide +kernel⟩
theorem tw_286 : (Jvm.Cond.methodLink "MotionLabLaw" (50 : Nat) ({ cls := "MotionLab", name := "keep", desc := "(IJ)I" } : Jvm.MethodName)) ∈ lw_g := List.mem_filter.mpr ⟨List.mem_append_right _ (List.mem_of_getElem? (i := 286) (by decide +kernel)), by decide +kernel⟩
theorem tw_287 : (Jvm.Cond.instanceMethod ({ cls := "MotionLab", name := "keep", desc := "(IJ)I" } : Jvm.MethodName)) ∈ lw_g := List.mem_filter.mpr ⟨List.mem_append_right _ (List.mem_of_getElem? (i := 287) (by decide +kernel)), by decide +kernel⟩
theorem tw_288 : (Jvm.Cond.selects "MotionLab" ({ cls := "MotionLab", name := "keep", desc := "(IJ)I" } : Jvm.MethodName) ({ cls := "MotionLab", name := "keep", desc := "(IJ)I" } : Jvm.MethodName)) ∈ lw_g := List.mem_filter.mpr ⟨List.mem_append_right _ (List.mem_of_getElem? (i := 288) (by decide +kernel)), by decide +kernel⟩
theorem tw_289 : (Jvm.Cond.code ({ cls := "MotionLab", name := "keep", desc := "(IJ)I" } : Jvm.MethodName) prog_1_method_9_code (4 : Nat) (Option.some Jvm.ClassFile.FieldType.int)) ∈ lw_g := List.mem_filter.mpr ⟨List.mem_append_right _ (List.mem_of_getElem? (i := 289) (by decide +kernel)), by decide +kernel⟩
theorem tw_294 : (Jvm.Cond.methodLink "MotionLabLaw" (54 : Nat) ({ cls := "MotionLab", name := "reckon", desc := "(IIII)J" } : Jvm.MethodName)) ∈ lw_g := List.mem_filter.mpr ⟨List.mem_append_right _ (List.mem_of_getElem? (i := 294) (by decide +kernel)), by decide +kernel⟩
theorem tw_295 : (Jvm.Cond.instanceMethod ({ cls := "MotionLab", name := "reckon", desc := "(IIII)J" } : Jvm.MethodName)) ∈ lw_g := List.mem_filter.mpr ⟨List.mem_append_right _ (List.mem_of_getElem? (i := 295) (by decide +kernel)), by decide +kernel⟩
theorem tw_296 : (Jvm.Cond.selects "MotionLab" ({ cls := "MotionLab", name := "reckon", desc := "(IIII)J" } : Jvm.MethodName) ({ cls := "MotionLab", name := "reckon", desc := "(IIII)J" } : Jvm.MethodName)) ∈ lw_g := List.mem_filter.mpr ⟨List.mem_append_right _ (List.mem_of_getElem? (i := 296) (by decide +kernel)), by decide +kernel⟩
theorem tw_297 : (Jvm.Cond.code ({ cls := "MotionLab", name := "reckon", desc := "(IIII)J" } : Jvm.MethodName) prog_1_method_10_code (5 : Nat) (Option.some Jvm.ClassFile.FieldType.long)) ∈ lw_g := List.mem_filter.mpr ⟨List.mem_append_right _ (List.mem_of_getElem? (i := 297) (by decide +kernel)), by decide +kernel⟩
theorem tw_325 : (Jvm.Cond.methodLink "MotionLabLaw" (59 : Nat) ({ cls := "MotionLab", name := "whole", desc := "(IIJ)J" } : Jvm.MethodName)) ∈ lw_g := List.mem_filter.mpr ⟨List.mem_append_right _ (List.mem_of_getElem? (i := 325) (by decide +kernel)), by decide +kernel⟩
theorem tw_326 : (Jvm.Cond.instanceMethod ({ cls := "MotionLab", name := "whole", desc := "(IIJ)J" } : Jvm.MethodName)) ∈ lw_g := List.mem_filter.mpr ⟨List.mem_append_right _ (List.mem_of_getElem? (i := 326) (by decide +kernel)), by decide +kernel⟩
theorem tw_327 : (Jvm.Cond.selects "MotionLab" ({ cls := "MotionLab", name := "whole", desc := "(IIJ)J" } : Jvm.MethodName) ({ cls := "MotionLab", name := "whole", desc := "(IIJ)J" } : Jvm.MethodName)) ∈ lw_g := List.mem_filter.mpr ⟨List.mem_append_right _ (List.mem_of_getElem? (i := 327) (by decide +kernel)), by decide +kernel⟩
theorem tw_328 : (Jvm.Cond.code ({ cls := "MotionLab", name := "whole", desc := "(IIJ)J" } : Jvm.MethodName) prog_1_method_11_code (5 : Nat) (Option.some Jvm.ClassFile.FieldType.long)) ∈ lw_g := List.mem_filter.mpr ⟨List.mem_append_right _ (List.mem_of_getElem? (i := 328) (by decide +kernel)), by decide +kernel⟩
theorem tw_338 : (Jvm.Cond.methodLink "MotionLabLaw" (64 : Nat) ({ cls := "MotionLab", name := "cast", desc := "(II)J" } : Jvm.MethodName)) ∈ lw_g := List.mem_filter.mpr ⟨List.mem_append_right _ (List.mem_of_getElem? (i := 338) (by decide +kernel)), by decide +kernel⟩
theorem tw_339 : (Jvm.Cond.instanceMethod ({ cls := "MotionLab", name := "cast", desc := "(II)J" } : Jvm.MethodName)) ∈ lw_g := List.mem_filter.mpr ⟨List.mem_append_right _ (List.mem_of_getElem? (i := 339) (by decide +kernel)), by decide +kernel⟩
theorem tw_340 : (Jvm.Cond.selects "MotionLab" ({ cls := "MotionLab", name := "cast", desc := "(II)J" } : Jvm.MethodName) ({ cls := "MotionLab", name := "cast", desc := "(II)J" } : Jvm.MethodName)) ∈ lw_g := List.mem_filter.mpr ⟨List.mem_append_right _ (List.mem_of_getElem? (i := 340) (by decide +kernel)), by decide +kernel⟩
theorem tw_341 : (Jvm.Cond.code ({ cls := "MotionLab", name := "cast", desc := "(II)J" } : Jvm.MethodName) prog_1_method_12_code (3 : Nat) (Option.some Jvm.ClassFile.FieldType.long)) ∈ lw_g := List.mem_filter.mpr ⟨List.mem_append_right _ (List.mem_of_getElem? (i := 341) (by decide +kernel)), by decide +kernel⟩
theorem tw_358 : (Jvm.Cond.methodLink "MotionLabLaw" (68 : Nat) ({ cls := "MotionLab", name := "compare", desc := "(II)I" } : Jvm.MethodName)) ∈ lw_g := List.mem_filter.mpr ⟨List.mem_append_right _ (List.mem_of_getElem? (i := 358) (by decide +kernel)), by decide +kernel⟩
theorem tw_359 : (Jvm.Cond.instanceMethod ({ cls := "MotionLab", name := "compare", desc := "(II)I" } : Jvm.MethodName)) ∈ lw_g := List.mem_filter.mpr ⟨List.mem_append_right _ (List.mem_of_getElem? (i := 359) (by decide +kernel)), by decide +kernel⟩
theorem tw_360 : (Jvm.Cond.selects "MotionLab" ({ cls := "MotionLab", name := "compare", desc := "(II)I" } : Jvm.MethodName) ({ cls := "MotionLab", name := "compare", desc := "(II)I" } : Jvm.MethodName)) ∈ lw_g := List.mem_filter.mpr ⟨List.mem_append_right _ (List.mem_of_getElem? (i := 360) (by decide +kernel)), by decide +kernel⟩
theorem tw_361 : (Jvm.Cond.code ({ cls := "MotionLab", name := "compare", desc := "(II)I" } : Jvm.MethodName) prog_1_method_13_code (3 : Nat) (Option.some Jvm.ClassFile.FieldType.int)) ∈ lw_g := List.mem_filter.mpr ⟨List.mem_append_right _ (List.mem_of_getElem? (i := 361) (by decide +kernel)), by decide +kernel⟩
theorem tw_364 : (Jvm.Cond.methodLink "MotionLabLaw" (73 : Nat) ({ cls := "MotionLab", name := "energy", desc := "()J" } : Jvm.MethodName)) ∈ lw_g := List.mem_filter.mpr ⟨List.mem_append_right _ (List.mem_of_getElem? (i := 364) (by decide +kernel)), by decide +kernel⟩
theorem tw_365 : (Jvm.Cond.instanceMethod ({ cls := "MotionLab", name := "energy", desc := "()J" } : Jvm.MethodName)) ∈ lw_g := List.mem_filter.mpr ⟨List.mem_append_right _ (List.mem_of_getElem? (i := 365) (by decide +kernel)), by decide +kernel⟩
theorem tw_366 : (Jvm.Cond.selects "MotionLab" ({ cls := "MotionLab", name := "energy", desc := "()J" } : Jvm.MethodName) ({ cls := "MotionLab", name := "energy", desc := "()J" } : Jvm.MethodName)) ∈ lw_g := List.mem_filter.mpr ⟨List.mem_append_right _ (List.mem_of_getElem? (i := 366) (by decide +kernel)), by decide +kernel⟩
theorem tw_367 : (Jvm.Cond.code ({ cls := "MotionLab", name := "energy", desc := "()J" } : Jvm.MethodName) prog_1_method_14_code (1 : Nat) (Option.some Jvm.ClassFile.FieldType.long)) ∈ lw_g := List.mem_filter.mpr ⟨List.mem_append_right _ (List.mem_of_getElem? (i := 367) (by decide +kernel)), by decide +kernel⟩
theorem tw_385 : (Jvm.Cond.methodLink "MotionLabLaw" (78 : Nat) ({ cls := "MotionLab", name := "mean", desc := "(II)J" } : Jvm.MethodName)) ∈ lw_g := List.mem_filter.mpr ⟨List.mem_append_right _ (List.mem_of_getElem? (i := 385) (by decide +kernel)), by decide +kernel⟩
theorem tw_386 : (Jvm.Cond.instanceMethod ({ cls := "MotionLab", name := "mean", desc := "(II)J" } : Jvm.MethodName)) ∈ lw_g := List.mem_filter.mpr ⟨List.mem_append_right _ (List.mem_of_getElem? (i := 386) (by decide +kernel)), by decide +kernel⟩
theorem tw_387 : (Jvm.Cond.selects "MotionLab" ({ cls := "MotionLab", name := "mean", desc := "(II)J" } : Jvm.MethodName) ({ cls := "MotionLab", name := "mean", desc := "(II)J" } : Jvm.MethodName)) ∈ lw_g := List.mem_filter.mpr ⟨List.mem_append_right _ (List.mem_of_getElem? (i := 387) (by decide +kernel)), by decide +kernel⟩
theorem tw_388 : (Jvm.Cond.code ({ cls := "MotionLab", name := "mean", desc := "(II)J" } : Jvm.MethodName) prog_1_method_15_code (3 : Nat) (Option.some Jvm.ClassFile.FieldType.long)) ∈ lw_g := List.mem_filter.mpr ⟨List.mem_append_right _ (List.mem_of_getElem? (i := 388) (by decide +kernel)), by decide +kernel⟩
theorem tw_395 : (Jvm.Cond.methodLink "MotionLabLaw" (82 : Nat) ({ cls := "MotionLab", name := "horner", desc := "(I)J" } : Jvm.MethodName)) ∈ lw_g := List.mem_filter.mpr ⟨List.mem_append_right _ (List.mem_of_getElem? (i := 395) (by decide +kernel)), by decide +kernel⟩
theorem tw_396 : (Jvm.Cond.instanceMethod ({ cls := "MotionLab", name := "horner", desc := "(I)J" } : Jvm.MethodName)) ∈ lw_g := List.mem_filter.mpr ⟨List.mem_append_right _ (List.mem_of_getElem? (i := 396) (by decide +kernel)), by decide +kernel⟩
theorem tw_397 : (Jvm.Cond.selects "MotionLab" ({ cls := "MotionLab", name := "horner", desc := "(I)J" } : Jvm.MethodName) ({ cls := "MotionLab", name := "horner", desc := "(I)J" } : Jvm.MethodName)) ∈ lw_g := List.mem_filter.mpr ⟨List.mem_append_right _ (List.mem_of_getElem? (i := 397) (by decide +kernel)), by decide +kernel⟩
theorem tw_398 : (Jvm.Cond.code ({ cls := "MotionLab", name := "horner", desc := "(I)J" } : Jvm.MethodName) prog_1_method_16_code (5 : Nat) (Option.some Jvm.ClassFile.FieldType.long)) ∈ lw_g := List.mem_filter.mpr ⟨List.mem_append_right _ (List.mem_of_getElem? (i := 398) (by decide +kernel)), by decide +kernel⟩
theorem tw_399 : (Jvm.Cond.methodLink "MotionLabLaw" (86 : Nat) ({ cls := "MotionLab", name := "single", desc := "(I)I" } : Jvm.MethodName)) ∈ lw_g := List.mem_filter.mpr ⟨List.mem_append_right _ (List.mem_of_getElem? (i := 399) (by decide +kernel)), by decide +kernel⟩
theorem tw_400 : (Jvm.Cond.instanceMethod ({ cls := "MotionLab", name := "single", desc := "(I)I" } : Jvm.MethodName)) ∈ lw_g := List.mem_filter.mpr ⟨List.mem_append_right _ (List.mem_of_getElem? (i := 400) (by decide +kernel)), by decide +kernel⟩
theorem tw_401 : (Jvm.Cond.selects "MotionLab" ({ cls := "MotionLab", name := "single", desc := "(I)I" } : Jvm.MethodName) ({ cls := "MotionLab", name := "single", desc := "(I)I" } : Jvm.MethodName)) ∈ lw_g := List.mem_filter.mpr ⟨List.mem_append_right _ (List.mem_of_getElem? (i := 401) (by decide +kernel)), by decide +kernel⟩
theorem tw_402 : (Jvm.Cond.code ({ cls := "MotionLab", name := "single", desc := "(I)I" } : Jvm.MethodName) prog_1_method_17_code (2 : Nat) (Option.some Jvm.ClassFile.FieldType.int)) ∈ lw_g := List.mem_filter.mpr ⟨List.mem_append_right _ (List.mem_of_getElem? (i := 402) (by decide +kernel)), by decide +kernel⟩
theorem tw_408 : (Jvm.Cond.methodLink "MotionLabLaw" (90 : Nat) ({ cls := "MotionLab", name := "fromSingle", desc := "(II)J" } : Jvm.MethodName)) ∈ lw_g := List.mem_filter.mpr ⟨List.mem_append_right _ (List.mem_of_getElem? (i := 408) (by decide +kernel)), by decide +kernel⟩
theorem tw_409 : (Jvm.Cond.instanceMethod ({ cls := "MotionLab", name := "fromSingle", desc := "(II)J" } : Jvm.MethodName)) ∈ lw_g := List.mem_filter.mpr ⟨List.mem_append_right _ (List.mem_of_getElem? (i := 409) (by decide +kernel)), by decide +kernel⟩
theorem tw_410 : (Jvm.Cond.selects "MotionLab" ({ cls := "MotionLab", name := "fromSingle", desc := "(II)J" } : Jvm.MethodName) ({ cls := "MotionLab", name := "fromSingle", desc := "(II)J" } : Jvm.MethodName)) ∈ lw_g := List.mem_filter.mpr ⟨List.mem_append_right _ (List.mem_of_getElem? (i := 410) (by decide +kernel)), by decide +kernel⟩
theorem tw_411 : (Jvm.Cond.code ({ cls := "MotionLab", name := "fromSingle", desc := "(II)J" } : Jvm.MethodName) prog_1_method_18_code (3 : Nat) (Option.some Jvm.ClassFile.FieldType.long)) ∈ lw_g := List.mem_filter.mpr ⟨List.mem_append_right _ (List.mem_of_getElem? (i := 411) (by decide +kernel)), by decide +kernel⟩
theorem tw_485 : (Jvm.Cond.methodLink "MotionLabLaw" (19 : Nat) ({ cls := "MotionLabModel", name := "body", desc := "(IIJ)I" } : Jvm.MethodName)) ∈ lw_g := List.mem_filter.mpr ⟨List.mem_append_right _ (List.mem_of_getElem? (i := 485) (by decide +kernel)), by decide +kernel⟩
theorem tw_486 : (Jvm.Cond.instanceMethod ({ cls := "MotionLabModel", name := "body", desc := "(IIJ)I" } : Jvm.MethodName)) ∈ lw_g := List.mem_filter.mpr ⟨List.mem_append_right _ (List.mem_of_getElem? (i := 486) (by decide +kernel)), by decide +kernel⟩
theorem tw_487 : (Jvm.Cond.selects "MotionLabModel" ({ cls := "MotionLabModel", name := "body", desc := "(IIJ)I" } : Jvm.MethodName) ({ cls := "MotionLabModel", name := "body", desc := "(IIJ)I" } : Jvm.MethodName)) ∈ lw_g := List.mem_filter.mpr ⟨List.mem_append_right _ (List.mem_of_getElem? (i := 487) (by decide +kernel)), by decide +kernel⟩
theorem tw_488 : (Jvm.Cond.code ({ cls := "MotionLabModel", name := "body", desc := "(IIJ)I" } : Jvm.MethodName) prog_6_method_33_code (5 : Nat) (Option.some Jvm.ClassFile.FieldType.int)) ∈ lw_g := List.mem_filter.mpr ⟨List.mem_append_right _ (List.mem_of_getElem? (i := 488) (by decide +kernel)), by decide +kernel⟩
theorem tw_546 : (Jvm.Cond.methodLink "MotionLabLaw" (24 : Nat) ({ cls := "MotionLabModel", name := "field", desc := "(IJ)I" } : Jvm.MethodName)) ∈ lw_g := List.mem_filter.mpr ⟨List.mem_append_right _ (List.mem_of_getElem? (i := 546) (by decide +kernel)), by decide +kernel⟩
theorem tw_547 : (Jvm.Cond.instanceMethod ({ cls := "MotionLabModel", name := "field", desc := "(IJ)I" } : Jvm.MethodName)) ∈ lw_g := List.mem_filter.mpr ⟨List.mem_append_right _ (List.mem_of_getElem? (i := 547) (by decide +kernel)), by decide +kernel⟩
theorem tw_548 : (Jvm.Cond.selects "MotionLabModel" ({ cls := "MotionLabModel", name := "field", desc := "(IJ)I" } : Jvm.MethodName) ({ cls := "MotionLabModel", name := "field", desc := "(IJ)I" } : Jvm.MethodName)) ∈ lw_g := List.mem_filter.mpr ⟨List.mem_append_right _ (List.mem_of_getElem? (i := 548) (by decide +kernel)), by decide +kernel⟩
theorem tw_549 : (Jvm.Cond.code ({ cls := "MotionLabModel", name := "field", desc := "(IJ)I" } : Jvm.MethodName) prog_6_method_34_code (4 : Nat) (Option.some Jvm.ClassFile.FieldType.int)) ∈ lw_g := List.mem_filter.mpr ⟨List.mem_append_right _ (List.mem_of_getElem? (i := 549) (by decide +kernel)), by decide +kernel⟩
theorem tw_550 : (Jvm.Cond.methodLink "MotionLabLaw" (29 : Nat) ({ cls := "MotionLabModel", name := "spring", desc := "(IIIII)I" } : Jvm.MethodName)) ∈ lw_g := List.mem_filter.mpr ⟨List.mem_append_right _ (List.mem_of_getElem? (i := 550) (by decide +kernel)), by decide +kernel⟩
theorem tw_551 : (Jvm.Cond.instanceMethod ({ cls := "MotionLabModel", name := "spring", desc := "(IIIII)I" } : Jvm.MethodName)) ∈ lw_g := List.mem_filter.mpr ⟨List.mem_append_right _ (List.mem_of_getElem? (i := 551) (by decide +kernel)), by decide +kernel⟩
theorem tw_552 : (Jvm.Cond.selects "MotionLabModel" ({ cls := "MotionLabModel", name := "spring", desc := "(IIIII)I" } : Jvm.MethodName) ({ cls := "MotionLabModel", name := "spring", desc := "(IIIII)I" } : Jvm.MethodName)) ∈ lw_g := List.mem_filter.mpr ⟨List.mem_append_right _ (List.mem_of_getElem? (i := 552) (by decide +kernel)), by decide +kernel⟩
theorem tw_553 : (Jvm.Cond.code ({ cls := "MotionLabModel", name := "spring", desc := "(IIIII)I" } : Jvm.MethodName) prog_6_method_36_code (6 : Nat) (Option.some Jvm.ClassFile.FieldType.int)) ∈ lw_g := List.mem_filter.mpr ⟨List.mem_append_right _ (List.mem_of_getElem? (i := 553) (by decide +kernel)), by decide +kernel⟩
theorem tw_558 : (Jvm.Cond.methodLink "MotionLabLaw" (34 : Nat) ({ cls := "MotionLabModel", name := "cut", desc := "()I" } : Jvm.MethodName)) ∈ lw_g := List.mem_filter.mpr ⟨List.mem_append_right _ (List.mem_of_getElem? (i := 558) (by decide +kernel)), by decide +kernel⟩
theorem tw_559 : (Jvm.Cond.instanceMethod ({ cls := "MotionLabModel", name := "cut", desc := "()I" } : Jvm.MethodName)) ∈ lw_g := List.mem_filter.mpr ⟨List.mem_append_right _ (List.mem_of_getElem? (i := 559) (by decide +kernel)), by decide +kernel⟩
theorem tw_560 : (Jvm.Cond.selects "MotionLabModel" ({ cls := "MotionLabModel", name := "cut", desc := "()I" } : Jvm.MethodName) ({ cls := "MotionLabModel", name := "cut", desc := "()I" } : Jvm.MethodName)) ∈ lw_g := List.mem_filter.mpr ⟨List.mem_append_right _ (List.mem_of_getElem? (i := 560) (by decide +kernel)), by decide +kernel⟩
theorem tw_561 : (Jvm.Cond.code ({ cls := "MotionLabModel", name := "cut", desc := "()I" } : Jvm.MethodName) prog_6_method_37_code (1 : Nat) (Option.some Jvm.ClassFile.FieldType.int)) ∈ lw_g := List.mem_filter.mpr ⟨List.mem_append_right _ (List.mem_of_getElem? (i := 561) (by decide +kernel)), by decide +kernel⟩
theorem tw_562 : (Jvm.Cond.methodLink "MotionLabLaw" (39 : Nat) ({ cls := "MotionLabModel", name := "step", desc := "(I)I" } : Jvm.MethodName)) ∈ lw_g := List.mem_filter.mpr ⟨List.mem_append_right _ (List.mem_of_getElem? (i := 562) (by decide +kernel)), by decide +kernel⟩
theorem tw_563 : (Jvm.Cond.instanceMethod ({ cls := "MotionLabModel", name := "step", desc := "(I)I" } : Jvm.MethodName)) ∈ lw_g := List.mem_filter.mpr ⟨List.mem_append_right _ (List.mem_of_getElem? (i := 563) (by decide +kernel)), by decide +kernel⟩
theorem tw_564 : (Jvm.Cond.selects "MotionLabModel" ({ cls := "MotionLabModel", name := "step", desc := "(I)I" } : Jvm.MethodName) ({ cls := "MotionLabModel", name := "step", desc := "(I)I" } : Jvm.MethodName)) ∈ lw_g := List.mem_filter.mpr ⟨List.mem_append_right _ (List.mem_of_getElem? (i := 564) (by decide +kernel)), by decide +kernel⟩
theorem tw_565 : (Jvm.Cond.code ({ cls := "MotionLabModel", name := "step", desc := "(I)I" } : Jvm.MethodName) prog_6_method_44_code (3 : Nat) (Option.some Jvm.ClassFile.FieldType.int)) ∈ lw_g := List.mem_filter.mpr ⟨List.mem_append_right _ (List.mem_of_getElem? (i := 565) (by decide +kernel)), by decide +kernel⟩
theorem tw_639 : (Jvm.Cond.methodLink "MotionLabLaw" (44 : Nat) ({ cls := "MotionLabModel", name := "tell", desc := "(II)J" } : Jvm.MethodName)) ∈ lw_g := List.mem_filter.mpr ⟨List.mem_append_right _ (List.mem_of_getElem? (i := 639) (by decide +kernel)), by decide +kernel⟩
theorem tw_640 : (Jvm.Cond.instanceMethod ({ cls := "MotionLabModel", name := "tell", desc := "(II)J" } : Jvm.MethodName)) ∈ lw_g := List.mem_filter.mpr ⟨List.mem_append_right _ (List.mem_of_getElem? (i := 640) (by decide +kernel)), by decide +kernel⟩
theorem tw_641 : (Jvm.Cond.selects "MotionLabModel" ({ cls := "MotionLabModel", name := "tell", desc := "(II)J" } : Jvm.MethodName) ({ cls := "MotionLabModel", name := "tell", desc := "(II)J" } : Jvm.MethodName)) ∈ lw_g := List.mem_filter.mpr ⟨List.mem_append_right _ (List.mem_of_getElem? (i := 641) (by decide +kernel)), by decide +kernel⟩
theorem tw_642 : (Jvm.Cond.code ({ cls := "MotionLabModel", name := "tell", desc := "(II)J" } : Jvm.MethodName) prog_6_method_46_code (3 : Nat) (Option.some Jvm.ClassFile.FieldType.long)) ∈ lw_g := List.mem_filter.mpr ⟨List.mem_append_right _ (List.mem_of_getElem? (i := 642) (by decide +kernel)), by decide +kernel⟩
theorem tw_650 : (Jvm.Cond.methodLink "MotionLabLaw" (49 : Nat) ({ cls := "MotionLabModel", name := "about", desc := "(I)J" } : Jvm.MethodName)) ∈ lw_g := List.mem_filter.mpr ⟨List.mem_append_right _ (List.mem_of_getElem? (i := 650) (by decide +kernel)), by decide +kernel⟩
theorem tw_651 : (Jvm.Cond.instanceMethod ({ cls := "MotionLabModel", name := "about", desc := "(I)J" } : Jvm.MethodName)) ∈ lw_g := List.mem_filter.mpr ⟨List.mem_append_right _ (List.mem_of_getElem? (i := 651) (by decide +kernel)), by decide +kernel⟩
theorem tw_652 : (Jvm.Cond.selects "MotionLabModel" ({ cls := "MotionLabModel", name := "about", desc := "(I)J" } : Jvm.MethodName) ({ cls := "MotionLabModel", name := "about", desc := "(I)J" } : Jvm.MethodName)) ∈ lw_g := List.mem_filter.mpr ⟨List.mem_append_right _ (List.mem_of_getElem? (i := 652) (by decide +kernel)), by decide +kernel⟩
theorem tw_653 : (Jvm.Cond.code ({ cls := "MotionLabModel", name := "about", desc := "(I)J" } : Jvm.MethodName) prog_6_method_47_code (2 : Nat) (Option.some Jvm.ClassFile.FieldType.long)) ∈ lw_g := List.mem_filter.mpr ⟨List.mem_append_right _ (List.mem_of_getElem? (i := 653) (by decide +kernel)), by decide +kernel⟩
theorem tw_654 : (Jvm.Cond.methodLink "MotionLabLaw" (53 : Nat) ({ cls := "MotionLabModel", name := "keep", desc := "(IJ)I" } : Jvm.MethodName)) ∈ lw_g := List.mem_filter.mpr ⟨List.mem_append_right _ (List.mem_of_getElem? (i := 654) (by decide +kernel)), by decide +kernel⟩
theorem tw_655 : (Jvm.Cond.instanceMethod ({ cls := "MotionLabModel", name := "keep", desc := "(IJ)I" } : Jvm.MethodName)) ∈ lw_g := List.mem_filter.mpr ⟨List.mem_append_right _ (List.mem_of_getElem? (i := 655) (by decide +kernel)), by decide +kernel⟩
theorem tw_656 : (Jvm.Cond.selects "MotionLabModel" ({ cls := "MotionLabModel", name := "keep", desc := "(IJ)I" } : Jvm.MethodName) ({ cls := "MotionLabModel", name := "keep", desc := "(IJ)I" } : Jvm.MethodName)) ∈ lw_g := List.mem_filter.mpr ⟨List.mem_append_right _ (List.mem_of_getElem? (i := 656) (by decide +kernel)), by decide +kernel⟩
theorem tw_657 : (Jvm.Cond.code ({ cls := "MotionLabModel", name := "keep", desc := "(IJ)I" } : Jvm.MethodName) prog_6_method_48_code (4 : Nat) (Option.some Jvm.ClassFile.FieldType.int)) ∈ lw_g := List.mem_filter.mpr ⟨List.mem_append_right _ (List.mem_of_getElem? (i := 657) (by decide +kernel)), by decide +kernel⟩
theorem tw_658 : (Jvm.Cond.methodLink "MotionLabLaw" (58 : Nat) ({ cls := "MotionLabModel", name := "reckon", desc := "(IIII)J" } : Jvm.MethodName)) ∈ lw_g := List.mem_filter.mpr ⟨List.mem_append_right _ (List.mem_of_getElem? (i := 658) (by decide +kernel)), by decide +kernel⟩
theorem tw_659 : (Jvm.Cond.instanceMethod ({ cls := "MotionLabModel", name := "reckon", desc := "(IIII)J" } : Jvm.MethodName)) ∈ lw_g := List.mem_filter.mpr ⟨List.mem_append_right _ (List.mem_of_getElem? (i := 659) (by decide +kernel)), by decide +kernel⟩
theorem tw_660 : (Jvm.Cond.selects "MotionLabModel" ({ cls := "MotionLabModel", name := "reckon", desc := "(IIII)J" } : Jvm.MethodName) ({ cls := "MotionLabModel", name := "reckon", desc := "(IIII)J" } : Jvm.MethodName)) ∈ lw_g := List.mem_filter.mpr ⟨List.mem_append_right _ (List.mem_of_getElem? (i := 660) (by decide +kernel)), by decide +kernel⟩
theorem tw_661 : (Jvm.Cond.code ({ cls := "MotionLabModel", name := "reckon", desc := "(IIII)J" } : Jvm.MethodName) prog_6_method_51_code (5 : Nat) (Option.some Jvm.ClassFile.FieldType.long)) ∈ lw_g := List.mem_filter.mpr ⟨List.mem_append_right _ (List.mem_of_getElem? (i := 661) (by decide +kernel)), by decide +kernel⟩
theorem tw_671 : (Jvm.Cond.methodLink "MotionLabLaw" (63 : Nat) ({ cls := "MotionLabModel", name := "whole", desc := "(IIJ)J" } : Jvm.MethodName)) ∈ lw_g := List.mem_filter.mpr ⟨List.mem_append_right _ (List.mem_of_getElem? (i := 671) (by decide +kernel)), by decide +kernel⟩
theorem tw_672 : (Jvm.Cond.instanceMethod ({ cls := "MotionLabModel", name := "whole", desc := "(IIJ)J" } : Jvm.MethodName)) ∈ lw_g := List.mem_filter.mpr ⟨List.mem_append_right _ (List.mem_of_getElem? (i := 672) (by decide +kernel)), by decide +kernel⟩
theorem tw_673 : (Jvm.Cond.selects "MotionLabModel" ({ cls := "MotionLabModel", name := "whole", desc := "(IIJ)J" } : Jvm.MethodName) ({ cls := "MotionLabModel", name := "whole", desc := "(IIJ)J" } : Jvm.MethodName)) ∈ lw_g := List.mem_filter.mpr ⟨List.mem_append_right _ (List.mem_of_getElem? (i := 673) (by decide +kernel)), by decide +kernel⟩
theorem tw_674 : (Jvm.Cond.code ({ cls := "MotionLabModel", name := "whole", desc := "(IIJ)J" } : Jvm.MethodName) prog_6_method_52_code (8 : Nat) (Option.some Jvm.ClassFile.FieldType.long)) ∈ lw_g := List.mem_filter.mpr ⟨List.mem_append_right _ (List.mem_of_getElem? (i := 674) (by decide +kernel)), by decide +kernel⟩
theorem tw_677 : (Jvm.Cond.methodLink "MotionLabLaw" (67 : Nat) ({ cls := "MotionLabModel", name := "cast", desc := "(II)J" } : Jvm.MethodName)) ∈ lw_g := List.mem_filter.mpr ⟨List.mem_append_right _ (List.mem_of_getElem? (i := 677) (by decide +kernel)), by decide +kernel⟩
theorem tw_678 : (Jvm.Cond.instanceMethod ({ cls := "MotionLabModel", name := "cast", desc := "(II)J" } : Jvm.MethodName)) ∈ lw_g := List.mem_filter.mpr ⟨List.mem_append_right _ (List.mem_of_getElem? (i := 678) (by decide +kernel)), by decide +kernel⟩
theorem tw_679 : (Jvm.Cond.selects "MotionLabModel" ({ cls := "MotionLabModel", name := "cast", desc := "(II)J" } : Jvm.MethodName) ({ cls := "MotionLabModel", name := "cast", desc := "(II)J" } : Jvm.MethodName)) ∈ lw_g := List.mem_filter.mpr ⟨List.mem_append_right _ (List.mem_of_getElem? (i := 679) (by decide +kernel)), by decide +kernel⟩
theorem tw_680 : (Jvm.Cond.code ({ cls := "MotionLabModel", name := "cast", desc := "(II)J" } : Jvm.MethodName) prog_6_method_54_code (4 : Nat) (Option.some Jvm.ClassFile.FieldType.long)) ∈ lw_g := List.mem_filter.mpr ⟨List.mem_append_right _ (List.mem_of_getElem? (i := 680) (by decide +kernel)), by decide +kernel⟩
theorem tw_687 : (Jvm.Cond.methodLink "MotionLabLaw" (72 : Nat) ({ cls := "MotionLabModel", name := "compare", desc := "(II)I" } : Jvm.MethodName)) ∈ lw_g := List.mem_filter.mpr ⟨List.mem_append_right _ (List.mem_of_getElem? (i := 687) (by decide +kernel)), by decide +kernel⟩
theorem tw_688 : (Jvm.Cond.instanceMethod ({ cls := "MotionLabModel", name := "compare", desc := "(II)I" } : Jvm.MethodName)) ∈ lw_g := List.mem_filter.mpr ⟨List.mem_append_right _ (List.mem_of_getElem? (i := 688) (by decide +kernel)), by decide +kernel⟩
theorem tw_689 : (Jvm.Cond.selects "MotionLabModel" ({ cls := "MotionLabModel", name := "compare", desc := "(II)I" } : Jvm.MethodName) ({ cls := "MotionLabModel", name := "compare", desc := "(II)I" } : Jvm.MethodName)) ∈ lw_g := List.mem_filter.mpr ⟨List.mem_append_right _ (List.mem_of_getElem? (i := 689) (by decide +kernel)), by decide +kernel⟩
theorem tw_690 : (Jvm.Cond.code ({ cls := "MotionLabModel", name := "compare", desc := "(II)I" } : Jvm.MethodName) prog_6_method_55_code (3 : Nat) (Option.some Jvm.ClassFile.FieldType.int)) ∈ lw_g := List.mem_filter.mpr ⟨List.mem_append_right _ (List.mem_of_getElem? (i := 690) (by decide +kernel)), by decide +kernel⟩
theorem tw_691 : (Jvm.Cond.methodLink "MotionLabLaw" (77 : Nat) ({ cls := "MotionLabModel", name := "energy", desc := "()J" } : Jvm.MethodName)) ∈ lw_g := List.mem_filter.mpr ⟨List.mem_append_right _ (List.mem_of_getElem? (i := 691) (by decide +kernel)), by decide +kernel⟩
theorem tw_692 : (Jvm.Cond.instanceMethod ({ cls := "MotionLabModel", name := "energy", desc := "()J" } : Jvm.MethodName)) ∈ lw_g := List.mem_filter.mpr ⟨List.mem_append_right _ (List.mem_of_getElem? (i := 692) (by decide +kernel)), by decide +kernel⟩
theorem tw_693 : (Jvm.Cond.selects "MotionLabModel" ({ cls := "MotionLabModel", name := "energy", desc := "()J" } : Jvm.MethodName) ({ cls := "MotionLabModel", name := "energy", desc := "()J" } : Jvm.MethodName)) ∈ lw_g := List.mem_filter.mpr ⟨List.mem_append_right _ (List.mem_of_getElem? (i := 693) (by decide +kernel)), by decide +kernel⟩
theorem tw_694 : (Jvm.Cond.code ({ cls := "MotionLabModel", name := "energy", desc := "()J" } : Jvm.MethodName) prog_6_method_56_code (6 : Nat) (Option.some Jvm.ClassFile.FieldType.long)) ∈ lw_g := List.mem_filter.mpr ⟨List.mem_append_right _ (List.mem_of_getElem? (i := 694) (by decide +kernel)), by decide +kernel⟩
theorem tw_696 : (Jvm.Cond.methodLink "MotionLabLaw" (81 : Nat) ({ cls := "MotionLabModel", name := "mean", desc := "(II)J" } : Jvm.MethodName)) ∈ lw_g := List.mem_filter.mpr ⟨List.mem_append_right _ (List.mem_of_getElem? (i := 696) (by decide +kernel)), by decide +kernel⟩
theorem tw_697 : (Jvm.Cond.instanceMethod ({ cls := "MotionLabModel", name := "mean", desc := "(II)J" } : Jvm.MethodName)) ∈ lw_g := List.mem_filter.mpr ⟨List.mem_append_right _ (List.mem_of_getElem? (i := 697) (by decide +kernel)), by decide +kernel⟩
theorem tw_698 : (Jvm.Cond.selects "MotionLabModel" ({ cls := "MotionLabModel", name := "mean", desc := "(II)J" } : Jvm.MethodName) ({ cls := "MotionLabModel", name := "mean", desc := "(II)J" } : Jvm.MethodName)) ∈ lw_g := List.mem_filter.mpr ⟨List.mem_append_right _ (List.mem_of_getElem? (i := 698) (by decide +kernel)), by decide +kernel⟩
theorem tw_699 : (Jvm.Cond.code ({ cls := "MotionLabModel", name := "mean", desc := "(II)J" } : Jvm.MethodName) prog_6_method_57_code (12 : Nat) (Option.some Jvm.ClassFile.FieldType.long)) ∈ lw_g := List.mem_filter.mpr ⟨List.mem_append_right _ (List.mem_of_getElem? (i := 699) (by decide +kernel)), by decide +kernel⟩
theorem tw_701 : (Jvm.Cond.methodLink "MotionLabLaw" (85 : Nat) ({ cls := "MotionLabModel", name := "horner", desc := "(I)J" } : Jvm.MethodName)) ∈ lw_g := List.mem_filter.mpr ⟨List.mem_append_right _ (List.mem_of_getElem? (i := 701) (by decide +kernel)), by decide +kernel⟩
theorem tw_702 : (Jvm.Cond.instanceMethod ({ cls := "MotionLabModel", name := "horner", desc := "(I)J" } : Jvm.MethodName)) ∈ lw_g := List.mem_filter.mpr ⟨List.mem_append_right _ (List.mem_of_getElem? (i := 702) (by decide +kernel)), by decide +kernel⟩
theorem tw_703 : (Jvm.Cond.selects "MotionLabModel" ({ cls := "MotionLabModel", name := "horner", desc := "(I)J" } : Jvm.MethodName) ({ cls := "MotionLabModel", name := "horner", desc := "(I)J" } : Jvm.MethodName)) ∈ lw_g := List.mem_filter.mpr ⟨List.mem_append_right _ (List.mem_of_getElem? (i := 703) (by decide +kernel)), by decide +kernel⟩
theorem tw_704 : (Jvm.Cond.code ({ cls := "MotionLabModel", name := "horner", desc := "(I)J" } : Jvm.MethodName) prog_6_method_58_code (5 : Nat) (Option.some Jvm.ClassFile.FieldType.long)) ∈ lw_g := List.mem_filter.mpr ⟨List.mem_append_right _ (List.mem_of_getElem? (i := 704) (by decide +kernel)), by decide +kernel⟩
theorem tw_705 : (Jvm.Cond.methodLink "MotionLabLaw" (89 : Nat) ({ cls := "MotionLabModel", name := "single", desc := "(I)I" } : Jvm.MethodName)) ∈ lw_g := List.mem_filter.mpr ⟨List.mem_append_right _ (List.mem_of_getElem? (i := 705) (by decide +kernel)), by decide +kernel⟩
theorem tw_706 : (Jvm.Cond.instanceMethod ({ cls := "MotionLabModel", name := "single", desc := "(I)I" } : Jvm.MethodName)) ∈ lw_g := List.mem_filter.mpr ⟨List.mem_append_right _ (List.mem_of_getElem? (i := 706) (by decide +kernel)), by decide +kernel⟩
theorem tw_707 : (Jvm.Cond.selects "MotionLabModel" ({ cls := "MotionLabModel", name := "single", desc := "(I)I" } : Jvm.MethodName) ({ cls := "MotionLabModel", name := "single", desc := "(I)I" } : Jvm.MethodName)) ∈ lw_g := List.mem_filter.mpr ⟨List.mem_append_right _ (List.mem_of_getElem? (i := 707) (by decide +kernel)), by decide +kernel⟩
theorem tw_708 : (Jvm.Cond.code ({ cls := "MotionLabModel", name := "single", desc := "(I)I" } : Jvm.MethodName) prog_6_method_59_code (2 : Nat) (Option.some Jvm.ClassFile.FieldType.int)) ∈ lw_g := List.mem_filter.mpr ⟨List.mem_append_right _ (List.mem_of_getElem? (i := 708) (by decide +kernel)), by decide +kernel⟩
theorem tw_709 : (Jvm.Cond.methodLink "MotionLabLaw" (93 : Nat) ({ cls := "MotionLabModel", name := "fromSingle", desc := "(II)J" } : Jvm.MethodName)) ∈ lw_g := List.mem_filter.mpr ⟨List.mem_append_right _ (List.mem_of_getElem? (i := 709) (by decide +kernel)), by decide +kernel⟩
theorem tw_710 : (Jvm.Cond.instanceMethod ({ cls := "MotionLabModel", name := "fromSingle", desc := "(II)J" } : Jvm.MethodName)) ∈ lw_g := List.mem_filter.mpr ⟨List.mem_append_right _ (List.mem_of_getElem? (i := 710) (by decide +kernel)), by decide +kernel⟩
theorem tw_711 : (Jvm.Cond.selects "MotionLabModel" ({ cls := "MotionLabModel", name := "fromSingle", desc := "(II)J" } : Jvm.MethodName) ({ cls := "MotionLabModel", name := "fromSingle", desc := "(II)J" } : Jvm.MethodName)) ∈ lw_g := List.mem_filter.mpr ⟨List.mem_append_right _ (List.mem_of_getElem? (i := 711) (by decide +kernel)), by decide +kernel⟩
theorem tw_712 : (Jvm.Cond.code ({ cls := "MotionLabModel", name := "fromSingle", desc := "(II)J" } : Jvm.MethodName) prog_6_method_60_code (3 : Nat) (Option.some Jvm.ClassFile.FieldType.long)) ∈ lw_g := List.mem_filter.mpr ⟨List.mem_append_right _ (List.mem_of_getElem? (i := 712) (by decide +kernel)), by decide +kernel⟩
theorem tw_713 : (Jvm.Cond.constantLong "MotionLabLaw" (13 : Nat) (4294967295 : Int64)) ∈ lw_g := List.mem_filter.mpr ⟨List.mem_append_right _ (List.mem_of_getElem? (i := 713) (by decide +kernel)), by decide +kernel⟩
/-! OUR OWN ROWS: the law's cases -/
set_option maxHeartbeats 4000000 in
set_option maxRecDepth 100000 in
theorem law_c0 {p : Program} {l : Launch} {e : Env} {s : State} {m : MethodId} {below : List Frame} {meth : Method} {c : Code} {dC : Nat → ClassId} {dI : Nat → Nat → Nat} {b L : Nat} {xs : Nat → Int32} {ad bd : Nat → Nat} {cJ cI : ClassId} {t0 t1 t2 : Nat} (hL : L ≤ 3072) (C0 : lw_At p s m meth c b L xs) (hRT : RTA t0 t1 t2 (lwB s) s s.heap) (hK : va_K (dC, dI) classes (tysJI cJ cI) s) {i : Nat} {x3 : Int32} (ex : x3 = nI i) (hi : i + 6 ≤ L) {S : CS} {M : MS} (hR : Rel 0 S M) {H : Heap} {locs : List Loc} (G : lwG dC dI ad bd cJ cI s S M H locs) {ls : Array Slot} (hl : lwL ls b ad bd x3)
    (kk : ∀ (S1 : CS) (M1 : MS) (H1 : Heap) (locs1 : List Loc) (ls1 : Array Slot), Rel 0 S1 M1 → lwG dC dI ad bd cJ cI s S1 M1 H1 locs1 → lwL ls1 b ad bd x3 → W p l e room_1 s m #[Value.ref b] below meth c H1 locs1 23 279 (lw_Z below #[Value.ref b] s) (F0 m 796 ls1 [])) : W p l e room_1 s m #[Value.ref b] below meth c H locs 23 279 (lw_Z below #[Value.ref b] s) (F0 m 116 ls []) := by
  obtain ⟨hx, hb, hr, hml, hown, hts, hX, hbl, hlocks, hgv⟩ := C0
  have hA : ∀ q : Nat, s.heap.size ≤ q → lwB s q := fun _ h => h
  have hbA : ¬ lwB s b := Nat.not_le.mpr hbl
  refine lv_aload_n hx hb d_law_116 rfl (lv_at hl 1 rfl) ?_
  refine lv_aload_n hx hb d_law_117 rfl (lv_at hl 0 rfl) ?_
  refine lv_iload_n hx hb d_law_118 rfl (lv_at hl 3 rfl) ?_
  refine lv_iconst (v := 1) hx hb d_law_119 (by decide) ?_
  refine lv_iadd hx hb d_law_120 ?_
  refine va_sld hx hb hX hbl hbA G.2.2 (sc_in ex hi hL (k := 1) (by decide)) d_law_121 ?_
  refine lv_aload_n hx hb d_law_122 rfl (lv_at hl 0 rfl) ?_
  refine lv_iload_n hx hb d_law_123 rfl (lv_at hl 3 rfl) ?_
  refine lv_iconst (v := 2) hx hb d_law_124 (by decide) ?_
  refine lv_iadd hx hb d_law_125 ?_
  refine va_sld hx hb hX hbl hbA G.2.2 (sc_in ex hi hL (k := 2) (by decide)) d_law_126 ?_
  refine lv_aload_n hx hb d_law_127 rfl (lv_at hl 0 rfl) ?_
  refine lv_iload_n hx hb d_law_128 rfl (lv_at hl 3 rfl) ?_
  refine lv_iconst (v := 3) hx hb d_law_129 (by decide) ?_
  refine lv_iadd hx hb d_law_130 ?_
  refine va_sld hx hb hX hbl hbA G.2.2 (sc_in ex hi hL (k := 3) (by decide)) d_law_131 ?_
  refine lv_i2l hx hb d_law_132 rfl ?_
  refine lv_bipush (v := (32 : Int32)) hx hb d_law_133 (by decide) ?_
  refine lv_lshl (v := j_shl ((xs (x3 + (3 : Int32)).toNatClampNeg).toInt64) (32 : Int32)) hx hb d_law_135 rfl ?_
  refine lv_aload_n hx hb d_law_136 rfl (lv_at hl 0 rfl) ?_
  refine lv_iload_n hx hb d_law_137 rfl (lv_at hl 3 rfl) ?_
  refine lv_iconst (v := 4) hx hb d_law_138 (by decide) ?_
  refine lv_iadd hx hb d_law_139 ?_
  refine va_sld hx hb hX hbl hbA G.2.2 (sc_in ex hi hL (k := 4) (by decide)) d_law_140 ?_
  refine lv_i2l hx hb d_law_141 rfl ?_
  refine lv_ldc2 (v := (4294967295 : Int64)) hx hb hown (hts _ (gt tw_713)) d_law_142 ?_
  refine lv_land hx hb d_law_145 ?_
  refine lv_lor hx hb d_law_146 ?_
  refine hg2_ci (As := [.int (xs (x3 + (1 : Int32)).toNatClampNeg), .int (xs (x3 + (2 : Int32)).toNatClampNeg), .long ((j_shl ((xs (x3 + (3 : Int32)).toNatClampNeg).toInt64) (32 : Int32)) ||| (((xs (x3 + (4 : Int32)).toNatClampNeg).toInt64) &&& (4294967295 : Int64)))]) (rest := []) (wa := cW ad cJ cI S) (wb := mW bd cJ cI M) ⟨hx, hb, hml, hown, hts⟩ (c_L_body_IIJ l dC dI ad cJ cI S (xs (x3 + (1 : Int32)).toNatClampNeg) (xs (x3 + (2 : Int32)).toNatClampNeg) ((j_shl ((xs (x3 + (3 : Int32)).toNatClampNeg).toInt64) (32 : Int32)) ||| (((xs (x3 + (4 : Int32)).toNatClampNeg).toInt64) &&& (4294967295 : Int64))) _) (gq_callV (k := 3) (fun w h => gt h) hts tw_64 tw_65 tw_66 tw_1 tw_67 (by decide +kernel) rfl rfl ⟨Nat.le_of_ble_eq_true rfl, Nat.le_of_ble_eq_true rfl⟩) hK G hA (hx_T _ _) 0 0 rfl rfl rfl hl.1 rfl (Nat.le_of_ble_eq_true rfl) ⟨Nat.le_of_ble_eq_true rfl, Nat.le_of_ble_eq_true rfl⟩ d_law_147 (fun H locs G => ?_)
  refine lv_aload_n hx hb d_law_150 rfl (lv_at hl 2 rfl) ?_
  refine lv_aload_n hx hb d_law_151 rfl (lv_at hl 0 rfl) ?_
  refine lv_iload_n hx hb d_law_152 rfl (lv_at hl 3 rfl) ?_
  refine lv_iconst (v := 1) hx hb d_law_153 (by decide) ?_
  refine lv_iadd hx hb d_law_154 ?_
  refine va_sld hx hb hX hbl hbA G.2.2 (sc_in ex hi hL (k := 1) (by decide)) d_law_155 ?_
  refine lv_aload_n hx hb d_law_156 rfl (lv_at hl 0 rfl) ?_
  refine lv_iload_n hx hb d_law_157 rfl (lv_at hl 3 rfl) ?_
  refine lv_iconst (v := 2) hx hb d_law_158 (by decide) ?_
  refine lv_iadd hx hb d_law_159 ?_
  refine va_sld hx hb hX hbl hbA G.2.2 (sc_in ex hi hL (k := 2) (by decide)) d_law_160 ?_
  refine lv_aload_n hx hb d_law_161 rfl (lv_at hl 0 rfl) ?_
  refine lv_iload_n hx hb d_law_162 rfl (lv_at hl 3 rfl) ?_
  refine lv_iconst (v := 3) hx hb d_law_163 (by decide) ?_
  refine lv_iadd hx hb d_law_164 ?_
  refine va_sld hx hb hX hbl hbA G.2.2 (sc_in ex hi hL (k := 3) (by decide)) d_law_165 ?_
  refine lv_i2l hx hb d_law_166 rfl ?_
  refine lv_bipush (v := (32 : Int32)) hx hb d_law_167 (by decide) ?_
  refine lv_lshl (v := j_shl ((xs (x3 + (3 : Int32)).toNatClampNeg).toInt64) (32 : Int32)) hx hb d_law_169 rfl ?_
  refine lv_aload_n hx hb d_law_170 rfl (lv_at hl 0 rfl) ?_
  refine lv_iload_n hx hb d_law_171 rfl (lv_at hl 3 rfl) ?_
  refine lv_iconst (v := 4) hx hb d_law_172 (by decide) ?_
  refine lv_iadd hx hb d_law_173 ?_
  refine va_sld hx hb hX hbl hbA G.2.2 (sc_in ex hi hL (k := 4) (by decide)) d_law_174 ?_
  refine lv_i2l hx hb d_law_175 rfl ?_
  refine lv_ldc2 (v := (4294967295 : Int64)) hx hb hown (hts _ (gt tw_713)) d_law_176 ?_
  refine lv_land hx hb d_law_179 ?_
  refine lv_lor hx hb d_law_180 ?_
  refine hg2_ci (As := [.int (xs (x3 + (1 : Int32)).toNatClampNeg), .int (xs (x3 + (2 : Int32)).toNatClampNeg), .long ((j_shl ((xs (x3 + (3 : Int32)).toNatClampNeg).toInt64) (32 : Int32)) ||| (((xs (x3 + (4 : Int32)).toNatClampNeg).toInt64) &&& (4294967295 : Int64)))]) (rest := [.int ((f_L_body_IIJ S (xs (x3 + (1 : Int32)).toNatClampNeg) (xs (x3 + (2 : Int32)).toNatClampNeg) ((j_shl ((xs (x3 + (3 : Int32)).toNatClampNeg).toInt64) (32 : Int32)) ||| (((xs (x3 + (4 : Int32)).toNatClampNeg).toInt64) &&& (4294967295 : Int64)))).1)]) (wa := mW bd cJ cI M) (wb := cW ad cJ cI ((f_L_body_IIJ S (xs (x3 + (1 : Int32)).toNatClampNeg) (xs (x3 + (2 : Int32)).toNatClampNeg) ((j_shl ((xs (x3 + (3 : Int32)).toNatClampNeg).toInt64) (32 : Int32)) ||| (((xs (x3 + (4 : Int32)).toNatClampNeg).toInt64) &&& (4294967295 : Int64)))).2)) ⟨hx, hb, hml, hown, hts⟩ (c_M_body_IIJ l dC dI bd cJ cI t0 t1 t2 M (xs (x3 + (1 : Int32)).toNatClampNeg) (xs (x3 + (2 : Int32)).toNatClampNeg) ((j_shl ((xs (x3 + (3 : Int32)).toNatClampNeg).toInt64) (32 : Int32)) ||| (((xs (x3 + (4 : Int32)).toNatClampNeg).toInt64) &&& (4294967295 : Int64))) _) (gq_callV (k := 3) (fun w h => gt h) hts tw_485 tw_486 tw_487 tw_4 tw_488 (by decide +kernel) rfl rfl ⟨Nat.le_of_ble_eq_true rfl, Nat.le_of_ble_eq_true rfl⟩) hK G hA (hx_M hRT (hg_fst G) hA) 3 0 rfl rfl rfl hl.1 rfl (Nat.le_of_ble_eq_true rfl) ⟨Nat.le_of_ble_eq_true rfl, Nat.le_of_ble_eq_true rfl⟩ d_law_181 (fun H locs G => ?_)
  refine lv_icmp_eq (tgt := 796) hx hb d_law_184 (by decide) (fun _ => ?_) (fun c9 => absurd (Z_set hR (xs (x3 + (1 : Int32)).toNatClampNeg) (xs (x3 + (2 : Int32)).toNatClampNeg) ((j_shl ((xs (x3 + (3 : Int32)).toNatClampNeg).toInt64) (32 : Int32)) ||| (((xs (x3 + (4 : Int32)).toNatClampNeg).toInt64) &&& (4294967295 : Int64)))).1 c9)
  exact kk _ _ _ _ _ (Z_set hR (xs (x3 + (1 : Int32)).toNatClampNeg) (xs (x3 + (2 : Int32)).toNatClampNeg) ((j_shl ((xs (x3 + (3 : Int32)).toNatClampNeg).toInt64) (32 : Int32)) ||| (((xs (x3 + (4 : Int32)).toNatClampNeg).toInt64) &&& (4294967295 : Int64)))).2 G hl
set_option maxHeartbeats 4000000 in
set_option maxRecDepth 100000 in
theorem law_c1 {p : Program} {l : Launch} {e : Env} {s : State} {m : MethodId} {below : List Frame} {meth : Method} {c : Code} {dC : Nat → ClassId} {dI : Nat → Nat → Nat} {b L : Nat} {xs : Nat → Int32} {ad bd : Nat → Nat} {cJ cI : ClassId} {t0 t1 t2 : Nat} (hL : L ≤ 3072) (C0 : lw_At p s m meth c b L xs) (hRT : RTA t0 t1 t2 (lwB s) s s.heap) (hK : va_K (dC, dI) classes (tysJI cJ cI) s) {i : Nat} {x3 : Int32} (ex : x3 = nI i) (hi : i + 6 ≤ L) {S : CS} {M : MS} (hR : Rel 0 S M) {H : Heap} {locs : List Loc} (G : lwG dC dI ad bd cJ cI s S M H locs) {ls : Array Slot} (hl : lwL ls b ad bd x3)
    (kk : ∀ (S1 : CS) (M1 : MS) (H1 : Heap) (locs1 : List Loc) (ls1 : Array Slot), Rel 0 S1 M1 → lwG dC dI ad bd cJ cI s S1 M1 H1 locs1 → lwL ls1 b ad bd x3 → W p l e room_1 s m #[Value.ref b] below meth c H1 locs1 23 279 (lw_Z below #[Value.ref b] s) (F0 m 796 ls1 [])) : W p l e room_1 s m #[Value.ref b] below meth c H locs 23 279 (lw_Z below #[Value.ref b] s) (F0 m 189 ls []) := by
  obtain ⟨hx, hb, hr, hml, hown, hts, hX, hbl, hlocks, hgv⟩ := C0
  have hA : ∀ q : Nat, s.heap.size ≤ q → lwB s q := fun _ h => h
  have hbA : ¬ lwB s b := Nat.not_le.mpr hbl
  refine lv_aload_n hx hb d_law_189 rfl (lv_at hl 1 rfl) ?_
  refine lv_aload_n hx hb d_law_190 rfl (lv_at hl 0 rfl) ?_
  refine lv_iload_n hx hb d_law_191 rfl (lv_at hl 3 rfl) ?_
  refine lv_iconst (v := 1) hx hb d_law_192 (by decide) ?_
  refine lv_iadd hx hb d_law_193 ?_
  refine va_sld hx hb hX hbl hbA G.2.2 (sc_in ex hi hL (k := 1) (by decide)) d_law_194 ?_
  refine lv_aload_n hx hb d_law_195 rfl (lv_at hl 0 rfl) ?_
  refine lv_iload_n hx hb d_law_196 rfl (lv_at hl 3 rfl) ?_
  refine lv_iconst (v := 2) hx hb d_law_197 (by decide) ?_
  refine lv_iadd hx hb d_law_198 ?_
  refine va_sld hx hb hX hbl hbA G.2.2 (sc_in ex hi hL (k := 2) (by decide)) d_law_199 ?_
  refine lv_i2l hx hb d_law_200 rfl ?_
  refine lv_bipush (v := (32 : Int32)) hx hb d_law_201 (by decide) ?_
  refine lv_lshl (v := j_shl ((xs (x3 + (2 : Int32)).toNatClampNeg).toInt64) (32 : Int32)) hx hb d_law_203 rfl ?_
  refine lv_aload_n hx hb d_law_204 rfl (lv_at hl 0 rfl) ?_
  refine lv_iload_n hx hb d_law_205 rfl (lv_at hl 3 rfl) ?_
  refine lv_iconst (v := 3) hx hb d_law_206 (by decide) ?_
  refine lv_iadd hx hb d_law_207 ?_
  refine va_sld hx hb hX hbl hbA G.2.2 (sc_in ex hi hL (k := 3) (by decide)) d_law_208 ?_
  refine lv_i2l hx hb d_law_209 rfl ?_
  refine lv_ldc2 (v := (4294967295 : Int64)) hx hb hown (hts _ (gt tw_713)) d_law_210 ?_
  refine lv_land hx hb d_law_213 ?_
  refine lv_lor hx hb d_law_214 ?_
  refine hg2_ci (As := [.int (xs (x3 + (1 : Int32)).toNatClampNeg), .long ((j_shl ((xs (x3 + (2 : Int32)).toNatClampNeg).toInt64) (32 : Int32)) ||| (((xs (x3 + (3 : Int32)).toNatClampNeg).toInt64) &&& (4294967295 : Int64)))]) (rest := []) (wa := cW ad cJ cI S) (wb := mW bd cJ cI M) ⟨hx, hb, hml, hown, hts⟩ (c_L_field_IJ l dC dI ad cJ cI S (xs (x3 + (1 : Int32)).toNatClampNeg) ((j_shl ((xs (x3 + (2 : Int32)).toNatClampNeg).toInt64) (32 : Int32)) ||| (((xs (x3 + (3 : Int32)).toNatClampNeg).toInt64) &&& (4294967295 : Int64))) _) (gq_callV (k := 2) (fun w h => gt h) hts tw_123 tw_124 tw_125 tw_1 tw_126 (by decide +kernel) rfl rfl ⟨Nat.le_of_ble_eq_true rfl, Nat.le_of_ble_eq_true rfl⟩) hK G hA (hx_T _ _) 0 0 rfl rfl rfl hl.1 rfl (Nat.le_of_ble_eq_true rfl) ⟨Nat.le_of_ble_eq_true rfl, Nat.le_of_ble_eq_true rfl⟩ d_law_215 (fun H locs G => ?_)
  refine lv_aload_n hx hb d_law_218 rfl (lv_at hl 2 rfl) ?_
  refine lv_aload_n hx hb d_law_219 rfl (lv_at hl 0 rfl) ?_
  refine lv_iload_n hx hb d_law_220 rfl (lv_at hl 3 rfl) ?_
  refine lv_iconst (v := 1) hx hb d_law_221 (by decide) ?_
  refine lv_iadd hx hb d_law_222 ?_
  refine va_sld hx hb hX hbl hbA G.2.2 (sc_in ex hi hL (k := 1) (by decide)) d_law_223 ?_
  refine lv_aload_n hx hb d_law_224 rfl (lv_at hl 0 rfl) ?_
  refine lv_iload_n hx hb d_law_225 rfl (lv_at hl 3 rfl) ?_
  refine lv_iconst (v := 2) hx hb d_law_226 (by decide) ?_
  refine lv_iadd hx hb d_law_227 ?_
  refine va_sld hx hb hX hbl hbA G.2.2 (sc_in ex hi hL (k := 2) (by decide)) d_law_228 ?_
  refine lv_i2l hx hb d_law_229 rfl ?_
  refine lv_bipush (v := (32 : Int32)) hx hb d_law_230 (by decide) ?_
  refine lv_lshl (v := j_shl ((xs (x3 + (2 : Int32)).toNatClampNeg).toInt64) (32 : Int32)) hx hb d_law_232 rfl ?_
  refine lv_aload_n hx hb d_law_233 rfl (lv_at hl 0 rfl) ?_
  refine lv_iload_n hx hb d_law_234 rfl (lv_at hl 3 rfl) ?_
  refine lv_iconst (v := 3) hx hb d_law_235 (by decide) ?_
  refine lv_iadd hx hb d_law_236 ?_
  refine va_sld hx hb hX hbl hbA G.2.2 (sc_in ex hi hL (k := 3) (by decide)) d_law_237 ?_
  refine lv_i2l hx hb d_law_238 rfl ?_
  refine lv_ldc2 (v := (4294967295 : Int64)) hx hb hown (hts _ (gt tw_713)) d_law_239 ?_
  refine lv_land hx hb d_law_242 ?_
  refine lv_lor hx hb d_law_243 ?_
  refine hg2_ci (As := [.int (xs (x3 + (1 : Int32)).toNatClampNeg), .long ((j_shl ((xs (x3 + (2 : Int32)).toNatClampNeg).toInt64) (32 : Int32)) ||| (((xs (x3 + (3 : Int32)).toNatClampNeg).toInt64) &&& (4294967295 : Int64)))]) (rest := [.int ((f_L_field_IJ S (xs (x3 + (1 : Int32)).toNatClampNeg) ((j_shl ((xs (x3 + (2 : Int32)).toNatClampNeg).toInt64) (32 : Int32)) ||| (((xs (x3 + (3 : Int32)).toNatClampNeg).toInt64) &&& (4294967295 : Int64)))).1)]) (wa := mW bd cJ cI M) (wb := cW ad cJ cI ((f_L_field_IJ S (xs (x3 + (1 : Int32)).toNatClampNeg) ((j_shl ((xs (x3 + (2 : Int32)).toNatClampNeg).toInt64) (32 : Int32)) ||| (((xs (x3 + (3 : Int32)).toNatClampNeg).toInt64) &&& (4294967295 : Int64)))).2)) ⟨hx, hb, hml, hown, hts⟩ (c_M_field_IJ l dC dI bd cJ cI t0 t1 t2 M (xs (x3 + (1 : Int32)).toNatClampNeg) ((j_shl ((xs (x3 + (2 : Int32)).toNatClampNeg).toInt64) (32 : Int32)) ||| (((xs (x3 + (3 : Int32)).toNatClampNeg).toInt64) &&& (4294967295 : Int64))) _) (gq_callV (k := 2) (fun w h => gt h) hts tw_546 tw_547 tw_548 tw_4 tw_549 (by decide +kernel) rfl rfl ⟨Nat.le_of_ble_eq_true rfl, Nat.le_of_ble_eq_true rfl⟩) hK G hA (hx_M hRT (hg_fst G) hA) 3 0 rfl rfl rfl hl.1 rfl (Nat.le_of_ble_eq_true rfl) ⟨Nat.le_of_ble_eq_true rfl, Nat.le_of_ble_eq_true rfl⟩ d_law_244 (fun H locs G => ?_)
  refine lv_icmp_eq (tgt := 796) hx hb d_law_247 (by decide) (fun _ => ?_) (fun c9 => absurd (Z_fld hR (xs (x3 + (1 : Int32)).toNatClampNeg) ((j_shl ((xs (x3 + (2 : Int32)).toNatClampNeg).toInt64) (32 : Int32)) ||| (((xs (x3 + (3 : Int32)).toNatClampNeg).toInt64) &&& (4294967295 : Int64)))).1 c9)
  exact kk _ _ _ _ _ (Z_fld hR (xs (x3 + (1 : Int32)).toNatClampNeg) ((j_shl ((xs (x3 + (2 : Int32)).toNatClampNeg).toInt64) (32 : Int32)) ||| (((xs (x3 + (3 : Int32)).toNatClampNeg).toInt64) &&& (4294967295 : Int64)))).2 G hl
set_option maxHeartbeats 4000000 in
set_option maxRecDepth 100000 in
theorem law_c2 {p : Program} {l : Launch} {e : Env} {s : State} {m : MethodId} {below : List Frame} {meth : Method} {c : Code} {dC : Nat → ClassId} {dI : Nat → Nat → Nat} {b L : Nat} {xs : Nat → Int32} {ad bd : Nat → Nat} {cJ cI : ClassId} {t0 t1 t2 : Nat} (hL : L ≤ 3072) (C0 : lw_At p s m meth c b L xs) (hRT : RTA t0 t1 t2 (lwB s) s s.heap) (hK : va_K (dC, dI) classes (tysJI cJ cI) s) {i : Nat} {x3 : Int32} (ex : x3 = nI i) (hi : i + 6 ≤ L) {S : CS} {M : MS} (hR : Rel 0 S M) {H : Heap} {locs : List Loc} (G : lwG dC dI ad bd cJ cI s S M H locs) {ls : Array Slot} (hl : lwL ls b ad bd x3)
    (kk : ∀ (S1 : CS) (M1 : MS) (H1 : Heap) (locs1 : List Loc) (ls1 : Array Slot), Rel 0 S1 M1 → lwG dC dI ad bd cJ cI s S1 M1 H1 locs1 → lwL ls1 b ad bd x3 → W p l e room_1 s m #[Value.ref b] below meth c H1 locs1 23 279 (lw_Z below #[Value.ref b] s) (F0 m 796 ls1 [])) : W p l e room_1 s m #[Value.ref b] below meth c H locs 23 279 (lw_Z below #[Value.ref b] s) (F0 m 252 ls []) := by
  obtain ⟨hx, hb, hr, hml, hown, hts, hX, hbl, hlocks, hgv⟩ := C0
  have hA : ∀ q : Nat, s.heap.size ≤ q → lwB s q := fun _ h => h
  have hbA : ¬ lwB s b := Nat.not_le.mpr hbl
  refine lv_aload_n hx hb d_law_252 rfl (lv_at hl 1 rfl) ?_
  refine lv_aload_n hx hb d_law_253 rfl (lv_at hl 0 rfl) ?_
  refine lv_iload_n hx hb d_law_254 rfl (lv_at hl 3 rfl) ?_
  refine lv_iconst (v := 1) hx hb d_law_255 (by decide) ?_
  refine lv_iadd hx hb d_law_256 ?_
  refine va_sld hx hb hX hbl hbA G.2.2 (sc_in ex hi hL (k := 1) (by decide)) d_law_257 ?_
  refine lv_aload_n hx hb d_law_258 rfl (lv_at hl 0 rfl) ?_
  refine lv_iload_n hx hb d_law_259 rfl (lv_at hl 3 rfl) ?_
  refine lv_iconst (v := 2) hx hb d_law_260 (by decide) ?_
  refine lv_iadd hx hb d_law_261 ?_
  refine va_sld hx hb hX hbl hbA G.2.2 (sc_in ex hi hL (k := 2) (by decide)) d_law_262 ?_
  refine lv_aload_n hx hb d_law_263 rfl (lv_at hl 0 rfl) ?_
  refine lv_iload_n hx hb d_law_264 rfl (lv_at hl 3 rfl) ?_
  refine lv_iconst (v := 3) hx hb d_law_265 (by decide) ?_
  refine lv_iadd hx hb d_law_266 ?_
  refine va_sld hx hb hX hbl hbA G.2.2 (sc_in ex hi hL (k := 3) (by decide)) d_law_267 ?_
  refine lv_aload_n hx hb d_law_268 rfl (lv_at hl 0 rfl) ?_
  refine lv_iload_n hx hb d_law_269 rfl (lv_at hl 3 rfl) ?_
  refine lv_iconst (v := 4) hx hb d_law_270 (by decide) ?_
  refine lv_iadd hx hb d_law_271 ?_
  refine va_sld hx hb hX hbl hbA G.2.2 (sc_in ex hi hL (k := 4) (by decide)) d_law_272 ?_
  refine lv_aload_n hx hb d_law_273 rfl (lv_at hl 0 rfl) ?_
  refine lv_iload_n hx hb d_law_274 rfl (lv_at hl 3 rfl) ?_
  refine lv_iconst (v := 5) hx hb d_law_275 (by decide) ?_
  refine lv_iadd hx hb d_law_276 ?_
  refine va_sld hx hb hX hbl hbA G.2.2 (sc_in ex hi hL (k := 5) (by decide)) d_law_277 ?_
  refine hg2_ci (As := [.int (xs (x3 + (1 : Int32)).toNatClampNeg), .int (xs (x3 + (2 : Int32)).toNatClampNeg), .int (xs (x3 + (3 : Int32)).toNatClampNeg), .int (xs (x3 + (4 : Int32)).toNatClampNeg), .int (xs (x3 + (5 : Int32)).toNatClampNeg)]) (rest := []) (wa := cW ad cJ cI S) (wb := mW bd cJ cI M) ⟨hx, hb, hml, hown, hts⟩ (c_L_spring_IIIII l dC dI ad cJ cI S (xs (x3 + (1 : Int32)).toNatClampNeg) (xs (x3 + (2 : Int32)).toNatClampNeg) (xs (x3 + (3 : Int32)).toNatClampNeg) (xs (x3 + (4 : Int32)).toNatClampNeg) (xs (x3 + (5 : Int32)).toNatClampNeg) hR.2.2.2.1.2.1 _) (gq_callV (k := 5) (fun w h => gt h) hts tw_134 tw_135 tw_136 tw_1 tw_137 (by decide +kernel) rfl rfl ⟨Nat.le_of_ble_eq_true rfl, Nat.le_of_ble_eq_true rfl⟩) hK G hA (hx_T _ _) 0 0 rfl rfl rfl hl.1 rfl (Nat.le_of_ble_eq_true rfl) ⟨Nat.le_of_ble_eq_true rfl, Nat.le_of_ble_eq_true rfl⟩ d_law_278 (fun H locs G => ?_)
  refine lv_aload_n hx hb d_law_281 rfl (lv_at hl 2 rfl) ?_
  refine lv_aload_n hx hb d_law_282 rfl (lv_at hl 0 rfl) ?_
  refine lv_iload_n hx hb d_law_283 rfl (lv_at hl 3 rfl) ?_
  refine lv_iconst (v := 1) hx hb d_law_284 (by decide) ?_
  refine lv_iadd hx hb d_law_285 ?_
  refine va_sld hx hb hX hbl hbA G.2.2 (sc_in ex hi hL (k := 1) (by decide)) d_law_286 ?_
  refine lv_aload_n hx hb d_law_287 rfl (lv_at hl 0 rfl) ?_
  refine lv_iload_n hx hb d_law_288 rfl (lv_at hl 3 rfl) ?_
  refine lv_iconst (v := 2) hx hb d_law_289 (by decide) ?_
  refine lv_iadd hx hb d_law_290 ?_
  refine va_sld hx hb hX hbl hbA G.2.2 (sc_in ex hi hL (k := 2) (by decide)) d_law_291 ?_
  refine lv_aload_n hx hb d_law_292 rfl (lv_at hl 0 rfl) ?_
  refine lv_iload_n hx hb d_law_293 rfl (lv_at hl 3 rfl) ?_
  refine lv_iconst (v := 3) hx hb d_law_294 (by decide) ?_
  refine lv_iadd hx hb d_law_295 ?_
  refine va_sld hx hb hX hbl hbA G.2.2 (sc_in ex hi hL (k := 3) (by decide)) d_law_296 ?_
  refine lv_aload_n hx hb d_law_297 rfl (lv_at hl 0 rfl) ?_
  refine lv_iload_n hx hb d_law_298 rfl (lv_at hl 3 rfl) ?_
  refine lv_iconst (v := 4) hx hb d_law_299 (by decide) ?_
  refine lv_iadd hx hb d_law_300 ?_
  refine va_sld hx hb hX hbl hbA G.2.2 (sc_in ex hi hL (k := 4) (by decide)) d_law_301 ?_
  refine lv_aload_n hx hb d_law_302 rfl (lv_at hl 0 rfl) ?_
  refine lv_iload_n hx hb d_law_303 rfl (lv_at hl 3 rfl) ?_
  refine lv_iconst (v := 5) hx hb d_law_304 (by decide) ?_
  refine lv_iadd hx hb d_law_305 ?_
  refine va_sld hx hb hX hbl hbA G.2.2 (sc_in ex hi hL (k := 5) (by decide)) d_law_306 ?_
  refine hg2_ci (As := [.int (xs (x3 + (1 : Int32)).toNatClampNeg), .int (xs (x3 + (2 : Int32)).toNatClampNeg), .int (xs (x3 + (3 : Int32)).toNatClampNeg), .int (xs (x3 + (4 : Int32)).toNatClampNeg), .int (xs (x3 + (5 : Int32)).toNatClampNeg)]) (rest := [.int ((f_L_spring_IIIII S (xs (x3 + (1 : Int32)).toNatClampNeg) (xs (x3 + (2 : Int32)).toNatClampNeg) (xs (x3 + (3 : Int32)).toNatClampNeg) (xs (x3 + (4 : Int32)).toNatClampNeg) (xs (x3 + (5 : Int32)).toNatClampNeg)).1)]) (wa := mW bd cJ cI M) (wb := cW ad cJ cI ((f_L_spring_IIIII S (xs (x3 + (1 : Int32)).toNatClampNeg) (xs (x3 + (2 : Int32)).toNatClampNeg) (xs (x3 + (3 : Int32)).toNatClampNeg) (xs (x3 + (4 : Int32)).toNatClampNeg) (xs (x3 + (5 : Int32)).toNatClampNeg)).2)) ⟨hx, hb, hml, hown, hts⟩ (c_M_spring_IIIII l dC dI bd cJ cI t0 t1 t2 M (xs (x3 + (1 : Int32)).toNatClampNeg) (xs (x3 + (2 : Int32)).toNatClampNeg) (xs (x3 + (3 : Int32)).toNatClampNeg) (xs (x3 + (4 : Int32)).toNatClampNeg) (xs (x3 + (5 : Int32)).toNatClampNeg) (rel_sp hR) _) (gq_callV (k := 5) (fun w h => gt h) hts tw_550 tw_551 tw_552 tw_4 tw_553 (by decide +kernel) rfl rfl ⟨Nat.le_of_ble_eq_true rfl, Nat.le_of_ble_eq_true rfl⟩) hK G hA (hx_M hRT (hg_fst G) hA) 3 0 rfl rfl rfl hl.1 rfl (Nat.le_of_ble_eq_true rfl) ⟨Nat.le_of_ble_eq_true rfl, Nat.le_of_ble_eq_true rfl⟩ d_law_307 (fun H locs G => ?_)
  refine lv_icmp_eq (tgt := 796) hx hb d_law_310 (by decide) (fun _ => ?_) (fun c9 => absurd (Z_join hR (xs (x3 + (1 : Int32)).toNatClampNeg) (xs (x3 + (2 : Int32)).toNatClampNeg) (xs (x3 + (3 : Int32)).toNatClampNeg) (xs (x3 + (4 : Int32)).toNatClampNeg) (xs (x3 + (5 : Int32)).toNatClampNeg)).1 c9)
  exact kk _ _ _ _ _ (Z_join hR (xs (x3 + (1 : Int32)).toNatClampNeg) (xs (x3 + (2 : Int32)).toNatClampNeg) (xs (x3 + (3 : Int32)).toNatClampNeg) (xs (x3 + (4 : Int32)).toNatClampNeg) (xs (x3 + (5 : Int32)).toNatClampNeg)).2 G hl
set_option maxHeartbeats 4000000 in
set_option maxRecDepth 100000 in
theorem law_c3 {p : Program} {l : Launch} {e : Env} {s : State} {m : MethodId} {below : List Frame} {meth : Method} {c : Code} {dC : Nat → ClassId} {dI : Nat → Nat → Nat} {b L : Nat} {xs : Nat → Int32} {ad bd : Nat → Nat} {cJ cI : ClassId} {t0 t1 t2 : Nat} (hL : L ≤ 3072) (C0 : lw_At p s m meth c b L xs) (hRT : RTA t0 t1 t2 (lwB s) s s.heap) (hK : va_K (dC, dI) classes (tysJI cJ cI) s) {i : Nat} {x3 : Int32} (ex : x3 = nI i) (hi : i + 6 ≤ L) {S : CS} {M : MS} (hR : Rel 0 S M) {H : Heap} {locs : List Loc} (G : lwG dC dI ad bd cJ cI s S M H locs) {ls : Array Slot} (hl : lwL ls b ad bd x3)
    (kk : ∀ (S1 : CS) (M1 : MS) (H1 : Heap) (locs1 : List Loc) (ls1 : Array Slot), Rel 0 S1 M1 → lwG dC dI ad bd cJ cI s S1 M1 H1 locs1 → lwL ls1 b ad bd x3 → W p l e room_1 s m #[Value.ref b] below meth c H1 locs1 23 279 (lw_Z below #[Value.ref b] s) (F0 m 796 ls1 [])) : W p l e room_1 s m #[Value.ref b] below meth c H locs 23 279 (lw_Z below #[Value.ref b] s) (F0 m 315 ls []) := by
  obtain ⟨hx, hb, hr, hml, hown, hts, hX, hbl, hlocks, hgv⟩ := C0
  have hA : ∀ q : Nat, s.heap.size ≤ q → lwB s q := fun _ h => h
  have hbA : ¬ lwB s b := Nat.not_le.mpr hbl
  refine lv_aload_n hx hb d_law_315 rfl (lv_at hl 1 rfl) ?_
  refine hg2_ci (As := []) (rest := []) (wa := cW ad cJ cI S) (wb := mW bd cJ cI M) ⟨hx, hb, hml, hown, hts⟩ (c_L_cut l dC dI ad cJ cI S _) (gq_callV (k := 0) (fun w h => gt h) hts tw_154 tw_155 tw_156 tw_1 tw_157 (by decide +kernel) rfl rfl ⟨Nat.le_of_ble_eq_true rfl, Nat.le_of_ble_eq_true rfl⟩) hK G hA (hx_T _ _) 0 0 rfl rfl rfl hl.1 rfl (Nat.le_of_ble_eq_true rfl) ⟨Nat.le_of_ble_eq_true rfl, Nat.le_of_ble_eq_true rfl⟩ d_law_316 (fun H locs G => ?_)
  refine lv_aload_n hx hb d_law_319 rfl (lv_at hl 2 rfl) ?_
  refine hg2_ci (As := []) (rest := [.int ((f_L_cut S).1)]) (wa := mW bd cJ cI M) (wb := cW ad cJ cI ((f_L_cut S).2)) ⟨hx, hb, hml, hown, hts⟩ (c_M_cut l dC dI bd cJ cI t0 t1 t2 M _) (gq_callV (k := 0) (fun w h => gt h) hts tw_558 tw_559 tw_560 tw_4 tw_561 (by decide +kernel) rfl rfl ⟨Nat.le_of_ble_eq_true rfl, Nat.le_of_ble_eq_true rfl⟩) hK G hA (hx_M hRT (hg_fst G) hA) 3 0 rfl rfl rfl hl.1 rfl (Nat.le_of_ble_eq_true rfl) ⟨Nat.le_of_ble_eq_true rfl, Nat.le_of_ble_eq_true rfl⟩ d_law_320 (fun H locs G => ?_)
  refine lv_icmp_eq (tgt := 796) hx hb d_law_323 (by decide) (fun _ => ?_) (fun c9 => absurd (Z_cut hR).1 c9)
  exact kk _ _ _ _ _ (Z_cut hR).2 G hl
set_option maxHeartbeats 4000000 in
set_option maxRecDepth 100000 in
theorem law_c4 {p : Program} {l : Launch} {e : Env} {s : State} {m : MethodId} {below : List Frame} {meth : Method} {c : Code} {dC : Nat → ClassId} {dI : Nat → Nat → Nat} {b L : Nat} {xs : Nat → Int32} {ad bd : Nat → Nat} {cJ cI : ClassId} {t0 t1 t2 : Nat} (hL : L ≤ 3072) (C0 : lw_At p s m meth c b L xs) (hRT : RTA t0 t1 t2 (lwB s) s s.heap) (hK : va_K (dC, dI) classes (tysJI cJ cI) s) {i : Nat} {x3 : Int32} (ex : x3 = nI i) (hi : i + 6 ≤ L) {S : CS} {M : MS} (hR : Rel 0 S M) {H : Heap} {locs : List Loc} (G : lwG dC dI ad bd cJ cI s S M H locs) {ls : Array Slot} (hl : lwL ls b ad bd x3)
    (kk : ∀ (S1 : CS) (M1 : MS) (H1 : Heap) (locs1 : List Loc) (ls1 : Array Slot), Rel 0 S1 M1 → lwG dC dI ad bd cJ cI s S1 M1 H1 locs1 → lwL ls1 b ad bd x3 → W p l e room_1 s m #[Value.ref b] below meth c H1 locs1 23 279 (lw_Z below #[Value.ref b] s) (F0 m 796 ls1 [])) : W p l e room_1 s m #[Value.ref b] below meth c H locs 23 279 (lw_Z below #[Value.ref b] s) (F0 m 328 ls []) := by
  obtain ⟨hx, hb, hr, hml, hown, hts, hX, hbl, hlocks, hgv⟩ := C0
  have hA : ∀ q : Nat, s.heap.size ≤ q → lwB s q := fun _ h => h
  have hbA : ¬ lwB s b := Nat.not_le.mpr hbl
  refine lv_aload_n hx hb d_law_328 rfl (lv_at hl 1 rfl) ?_
  refine lv_aload_n hx hb d_law_329 rfl (lv_at hl 0 rfl) ?_
  refine lv_iload_n hx hb d_law_330 rfl (lv_at hl 3 rfl) ?_
  refine lv_iconst (v := 1) hx hb d_law_331 (by decide) ?_
  refine lv_iadd hx hb d_law_332 ?_
  refine va_sld hx hb hX hbl hbA G.2.2 (sc_in ex hi hL (k := 1) (by decide)) d_law_333 ?_
  refine hg2_ci (As := [.int (xs (x3 + (1 : Int32)).toNatClampNeg)]) (rest := []) (wa := cW ad cJ cI S) (wb := mW bd cJ cI M) ⟨hx, hb, hml, hown, hts⟩ (c_L_step_I l dC dI ad cJ cI S (xs (x3 + (1 : Int32)).toNatClampNeg) (rel_c hR) _) (gq_callV (k := 1) (fun w h => gt h) hts tw_162 tw_163 tw_164 tw_1 tw_165 (by decide +kernel) rfl rfl ⟨Nat.le_of_ble_eq_true rfl, Nat.le_of_ble_eq_true rfl⟩) hK G hA (hx_T _ _) 0 0 rfl rfl rfl hl.1 rfl (Nat.le_of_ble_eq_true rfl) ⟨Nat.le_of_ble_eq_true rfl, Nat.le_of_ble_eq_true rfl⟩ d_law_334 (fun H locs G => ?_)
  refine lv_aload_n hx hb d_law_337 rfl (lv_at hl 2 rfl) ?_
  refine lv_aload_n hx hb d_law_338 rfl (lv_at hl 0 rfl) ?_
  refine lv_iload_n hx hb d_law_339 rfl (lv_at hl 3 rfl) ?_
  refine lv_iconst (v := 1) hx hb d_law_340 (by decide) ?_
  refine lv_iadd hx hb d_law_341 ?_
  refine va_sld hx hb hX hbl hbA G.2.2 (sc_in ex hi hL (k := 1) (by decide)) d_law_342 ?_
  refine hg2_ci (As := [.int (xs (x3 + (1 : Int32)).toNatClampNeg)]) (rest := [.int ((f_L_step_I S (xs (x3 + (1 : Int32)).toNatClampNeg)).1)]) (wa := mW bd cJ cI M) (wb := cW ad cJ cI ((f_L_step_I S (xs (x3 + (1 : Int32)).toNatClampNeg)).2)) ⟨hx, hb, hml, hown, hts⟩ (c_M_step_I l dC dI bd cJ cI t0 t1 t2 M (xs (x3 + (1 : Int32)).toNatClampNeg) (rel_m hR) _) (gq_callV (k := 1) (fun w h => gt h) hts tw_562 tw_563 tw_564 tw_4 tw_565 (by decide +kernel) rfl rfl ⟨Nat.le_of_ble_eq_true rfl, Nat.le_of_ble_eq_true rfl⟩) hK G hA (hx_M hRT (hg_fst G) hA) 3 0 rfl rfl rfl hl.1 rfl (Nat.le_of_ble_eq_true rfl) ⟨Nat.le_of_ble_eq_true rfl, Nat.le_of_ble_eq_true rfl⟩ d_law_343 (fun H locs G => ?_)
  refine lv_icmp_eq (tgt := 796) hx hb d_law_346 (by decide) (fun _ => ?_) (fun c9 => absurd (Z_step hR (xs (x3 + (1 : Int32)).toNatClampNeg)).1 c9)
  exact kk _ _ _ _ _ (Z_step hR (xs (x3 + (1 : Int32)).toNatClampNeg)).2 G hl
set_option maxHeartbeats 4000000 in
set_option maxRecDepth 100000 in
theorem law_c5 {p : Program} {l : Launch} {e : Env} {s : State} {m : MethodId} {below : List Frame} {meth : Method} {c : Code} {dC : Nat → ClassId} {dI : Nat → Nat → Nat} {b L : Nat} {xs : Nat → Int32} {ad bd : Nat → Nat} {cJ cI : ClassId} {t0 t1 t2 : Nat} (hL : L ≤ 3072) (C0 : lw_At p s m meth c b L xs) (hRT : RTA t0 t1 t2 (lwB s) s s.heap) (hK : va_K (dC, dI) classes (tysJI cJ cI) s) {i : Nat} {x3 : Int32} (ex : x3 = nI i) (hi : i + 6 ≤ L) {S : CS} {M : MS} (hR : Rel 0 S M) {H : Heap} {locs : List Loc} (G : lwG dC dI ad bd cJ cI s S M H locs) {ls : Array Slot} (hl : lwL ls b ad bd x3)
    (kk : ∀ (S1 : CS) (M1 : MS) (H1 : Heap) (locs1 : List Loc) (ls1 : Array Slot), Rel 0 S1 M1 → lwG dC dI ad bd cJ cI s S1 M1 H1 locs1 → lwL ls1 b ad bd x3 → W p l e room_1 s m #[Value.ref b] below meth c H1 locs1 23 279 (lw_Z below #[Value.ref b] s) (F0 m 796 ls1 [])) : W p l e room_1 s m #[Value.ref b] below meth c H locs 23 279 (lw_Z below #[Value.ref b] s) (F0 m 351 ls []) := by
  obtain ⟨hx, hb, hr, hml, hown, hts, hX, hbl, hlocks, hgv⟩ := C0
  have hA : ∀ q : Nat, s.heap.size ≤ q → lwB s q := fun _ h => h
  have hbA : ¬ lwB s b := Nat.not_le.mpr hbl
  refine lv_aload_n hx hb d_law_351 rfl (lv_at hl 1 rfl) ?_
  refine lv_aload_n hx hb d_law_352 rfl (lv_at hl 0 rfl) ?_
  refine lv_iload_n hx hb d_law_353 rfl (lv_at hl 3 rfl) ?_
  refine lv_iconst (v := 1) hx hb d_law_354 (by decide) ?_
  refine lv_iadd hx hb d_law_355 ?_
  refine va_sld hx hb hX hbl hbA G.2.2 (sc_in ex hi hL (k := 1) (by decide)) d_law_356 ?_
  refine lv_aload_n hx hb d_law_357 rfl (lv_at hl 0 rfl) ?_
  refine lv_iload_n hx hb d_law_358 rfl (lv_at hl 3 rfl) ?_
  refine lv_iconst (v := 2) hx hb d_law_359 (by decide) ?_
  refine lv_iadd hx hb d_law_360 ?_
  refine va_sld hx hb hX hbl hbA G.2.2 (sc_in ex hi hL (k := 2) (by decide)) d_law_361 ?_
  refine hg2_cl (As := [.int (xs (x3 + (1 : Int32)).toNatClampNeg), .int (xs (x3 + (2 : Int32)).toNatClampNeg)]) (rest := []) (wa := cW ad cJ cI S) (wb := mW bd cJ cI M) ⟨hx, hb, hml, hown, hts⟩ (c_L_tell_II l dC dI ad cJ cI S (xs (x3 + (1 : Int32)).toNatClampNeg) (xs (x3 + (2 : Int32)).toNatClampNeg) _) (gq_callV (k := 2) (fun w h => gt h) hts tw_270 tw_271 tw_272 tw_1 tw_273 (by decide +kernel) rfl rfl ⟨Nat.le_of_ble_eq_true rfl, Nat.le_of_ble_eq_true rfl⟩) hK G hA (hx_T _ _) 0 0 rfl rfl rfl hl.1 rfl (Nat.le_of_ble_eq_true rfl) ⟨Nat.le_of_ble_eq_true rfl, Nat.le_of_ble_eq_true rfl⟩ d_law_362 (fun H locs G => ?_)
  refine lv_aload_n hx hb d_law_365 rfl (lv_at hl 2 rfl) ?_
  refine lv_aload_n hx hb d_law_366 rfl (lv_at hl 0 rfl) ?_
  refine lv_iload_n hx hb d_law_367 rfl (lv_at hl 3 rfl) ?_
  refine lv_iconst (v := 1) hx hb d_law_368 (by decide) ?_
  refine lv_iadd hx hb d_law_369 ?_
  refine va_sld hx hb hX hbl hbA G.2.2 (sc_in ex hi hL (k := 1) (by decide)) d_law_370 ?_
  refine lv_aload_n hx hb d_law_371 rfl (lv_at hl 0 rfl) ?_
  refine lv_iload_n hx hb d_law_372 rfl (lv_at hl 3 rfl) ?_
  refine lv_iconst (v := 2) hx hb d_law_373 (by decide) ?_
  refine lv_iadd hx hb d_law_374 ?_
  refine va_sld hx hb hX hbl hbA G.2.2 (sc_in ex hi hL (k := 2) (by decide)) d_law_375 ?_
  refine hg2_cl (As := [.int (xs (x3 + (1 : Int32)).toNatClampNeg), .int (xs (x3 + (2 : Int32)).toNatClampNeg)]) (rest := [.long (f_L_tell_II S (xs (x3 + (1 : Int32)).toNatClampNeg) (xs (x3 + (2 : Int32)).toNatClampNeg))]) (wa := mW bd cJ cI M) (wb := cW ad cJ cI S) ⟨hx, hb, hml, hown, hts⟩ (c_M_tell_II l dC dI bd cJ cI t0 t1 t2 M (xs (x3 + (1 : Int32)).toNatClampNeg) (xs (x3 + (2 : Int32)).toNatClampNeg) _) (gq_callV (k := 2) (fun w h => gt h) hts tw_639 tw_640 tw_641 tw_4 tw_642 (by decide +kernel) rfl rfl ⟨Nat.le_of_ble_eq_true rfl, Nat.le_of_ble_eq_true rfl⟩) hK G hA (hx_M hRT (hg_fst G) hA) 3 0 rfl rfl rfl hl.1 rfl (Nat.le_of_ble_eq_true rfl) ⟨Nat.le_of_ble_eq_true rfl, Nat.le_of_ble_eq_true rfl⟩ d_law_376 (fun H locs G => ?_)
  refine W.lcmp hx hb d_law_379 ?_
  refine lv_if_eq (tgt := 796) hx hb d_law_380 (by decide) (fun _ => ?_) (fun c9 => absurd ((lg_cmp_eq _ _).mpr (Z_tell hR (xs (x3 + (1 : Int32)).toNatClampNeg) (xs (x3 + (2 : Int32)).toNatClampNeg))) c9)
  exact kk _ _ _ _ _ hR G hl
set_option maxHeartbeats 4000000 in
set_option maxRecDepth 100000 in
theorem law_c6 {p : Program} {l : Launch} {e : Env} {s : State} {m : MethodId} {below : List Frame} {meth : Method} {c : Code} {dC : Nat → ClassId} {dI : Nat → Nat → Nat} {b L : Nat} {xs : Nat → Int32} {ad bd : Nat → Nat} {cJ cI : ClassId} {t0 t1 t2 : Nat} (hL : L ≤ 3072) (C0 : lw_At p s m meth c b L xs) (hRT : RTA t0 t1 t2 (lwB s) s s.heap) (hK : va_K (dC, dI) classes (tysJI cJ cI) s) {i : Nat} {x3 : Int32} (ex : x3 = nI i) (hi : i + 6 ≤ L) {S : CS} {M : MS} (hR : Rel 0 S M) {H : Heap} {locs : List Loc} (G : lwG dC dI ad bd cJ cI s S M H locs) {ls : Array Slot} (hl : lwL ls b ad bd x3)
    (kk : ∀ (S1 : CS) (M1 : MS) (H1 : Heap) (locs1 : List Loc) (ls1 : Array Slot), Rel 0 S1 M1 → lwG dC dI ad bd cJ cI s S1 M1 H1 locs1 → lwL ls1 b ad bd x3 → W p l e room_1 s m #[Value.ref b] below meth c H1 locs1 23 279 (lw_Z below #[Value.ref b] s) (F0 m 796 ls1 [])) : W p l e room_1 s m #[Value.ref b] below meth c H locs 23 279 (lw_Z below #[Value.ref b] s) (F0 m 385 ls []) := by
  obtain ⟨hx, hb, hr, hml, hown, hts, hX, hbl, hlocks, hgv⟩ := C0
  have hA : ∀ q : Nat, s.heap.size ≤ q → lwB s q := fun _ h => h
  have hbA : ¬ lwB s b := Nat.not_le.mpr hbl
  refine lv_aload_n hx hb d_law_385 rfl (lv_at hl 1 rfl) ?_
  refine lv_aload_n hx hb d_law_386 rfl (lv_at hl 0 rfl) ?_
  refine lv_iload_n hx hb d_law_387 rfl (lv_at hl 3 rfl) ?_
  refine lv_iconst (v := 1) hx hb d_law_388 (by decide) ?_
  refine lv_iadd hx hb d_law_389 ?_
  refine va_sld hx hb hX hbl hbA G.2.2 (sc_in ex hi hL (k := 1) (by decide)) d_law_390 ?_
  refine hg2_cl (As := [.int (xs (x3 + (1 : Int32)).toNatClampNeg)]) (rest := []) (wa := cW ad cJ cI S) (wb := mW bd cJ cI M) ⟨hx, hb, hml, hown, hts⟩ (c_L_about_I l dC dI ad cJ cI S (xs (x3 + (1 : Int32)).toNatClampNeg) _) (gq_callV (k := 1) (fun w h => gt h) hts tw_278 tw_279 tw_280 tw_1 tw_281 (by decide +kernel) rfl rfl ⟨Nat.le_of_ble_eq_true rfl, Nat.le_of_ble_eq_true rfl⟩) hK G hA (hx_T _ _) 0 0 rfl rfl rfl hl.1 rfl (Nat.le_of_ble_eq_true rfl) ⟨Nat.le_of_ble_eq_true rfl, Nat.le_of_ble_eq_true rfl⟩ d_law_391 (fun H locs G => ?_)
  refine lv_aload_n hx hb d_law_394 rfl (lv_at hl 2 rfl) ?_
  refine lv_aload_n hx hb d_law_395 rfl (lv_at hl 0 rfl) ?_
  refine lv_iload_n hx hb d_law_396 rfl (lv_at hl 3 rfl) ?_
  refine lv_iconst (v := 1) hx hb d_law_397 (by decide) ?_
  refine lv_iadd hx hb d_law_398 ?_
  refine va_sld hx hb hX hbl hbA G.2.2 (sc_in ex hi hL (k := 1) (by decide)) d_law_399 ?_
  refine hg2_cl (As := [.int (xs (x3 + (1 : Int32)).toNatClampNeg)]) (rest := [.long (f_L_about_I S (xs (x3 + (1 : Int32)).toNatClampNeg))]) (wa := mW bd cJ cI M) (wb := cW ad cJ cI S) ⟨hx, hb, hml, hown, hts⟩ (c_M_about_I l dC dI bd cJ cI t0 t1 t2 M (xs (x3 + (1 : Int32)).toNatClampNeg) _) (gq_callV (k := 1) (fun w h => gt h) hts tw_650 tw_651 tw_652 tw_4 tw_653 (by decide +kernel) rfl rfl ⟨Nat.le_of_ble_eq_true rfl, Nat.le_of_ble_eq_true rfl⟩) hK G hA (hx_M hRT (hg_fst G) hA) 3 0 rfl rfl rfl hl.1 rfl (Nat.le_of_ble_eq_true rfl) ⟨Nat.le_of_ble_eq_true rfl, Nat.le_of_ble_eq_true rfl⟩ d_law_400 (fun H locs G => ?_)
  refine W.lcmp hx hb d_law_403 ?_
  refine lv_if_eq (tgt := 796) hx hb d_law_404 (by decide) (fun _ => ?_) (fun c9 => absurd ((lg_cmp_eq _ _).mpr (Z_about hR (xs (x3 + (1 : Int32)).toNatClampNeg))) c9)
  exact kk _ _ _ _ _ hR G hl
set_option maxHeartbeats 4000000 in
set_option maxRecDepth 100000 in
theorem law_c7 {p : Program} {l : Launch} {e : Env} {s : State} {m : MethodId} {below : List Frame} {meth : Method} {c : Code} {dC : Nat → ClassId} {dI : Nat → Nat → Nat} {b L : Nat} {xs : Nat → Int32} {ad bd : Nat → Nat} {cJ cI : ClassId} {t0 t1 t2 : Nat} (hL : L ≤ 3072) (C0 : lw_At p s m meth c b L xs) (hRT : RTA t0 t1 t2 (lwB s) s s.heap) (hK : va_K (dC, dI) classes (tysJI cJ cI) s) {i : Nat} {x3 : Int32} (ex : x3 = nI i) (hi : i + 6 ≤ L) {S : CS} {M : MS} (hR : Rel 0 S M) {H : Heap} {locs : List Loc} (G : lwG dC dI ad bd cJ cI s S M H locs) {ls : Array Slot} (hl : lwL ls b ad bd x3)
    (kk : ∀ (S1 : CS) (M1 : MS) (H1 : Heap) (locs1 : List Loc) (ls1 : Array Slot), Rel 0 S1 M1 → lwG dC dI ad bd cJ cI s S1 M1 H1 locs1 → lwL ls1 b ad bd x3 → W p l e room_1 s m #[Value.ref b] below meth c H1 locs1 23 279 (lw_Z below #[Value.ref b] s) (F0 m 796 ls1 [])) : W p l e room_1 s m #[Value.ref b] below meth c H locs 23 279 (lw_Z below #[Value.ref b] s) (F0 m 409 ls []) := by
  obtain ⟨hx, hb, hr, hml, hown, hts, hX, hbl, hlocks, hgv⟩ := C0
  have hA : ∀ q : Nat, s.heap.size ≤ q → lwB s q := fun _ h => h
  have hbA : ¬ lwB s b := Nat.not_le.mpr hbl
  refine lv_aload_n hx hb d_law_409 rfl (lv_at hl 1 rfl) ?_
  refine lv_aload_n hx hb d_law_410 rfl (lv_at hl 0 rfl) ?_
  refine lv_iload_n hx hb d_law_411 rfl (lv_at hl 3 rfl) ?_
  refine lv_iconst (v := 1) hx hb d_law_412 (by decide) ?_
  refine lv_iadd hx hb d_law_413 ?_
  refine va_sld hx hb hX hbl hbA G.2.2 (sc_in ex hi hL (k := 1) (by decide)) d_law_414 ?_
  refine lv_aload_n hx hb d_law_415 rfl (lv_at hl 0 rfl) ?_
  refine lv_iload_n hx hb d_law_416 rfl (lv_at hl 3 rfl) ?_
  refine lv_iconst (v := 2) hx hb d_law_417 (by decide) ?_
  refine lv_iadd hx hb d_law_418 ?_
  refine va_sld hx hb hX hbl hbA G.2.2 (sc_in ex hi hL (k := 2) (by decide)) d_law_419 ?_
  refine lv_i2l hx hb d_law_420 rfl ?_
  refine lv_bipush (v := (32 : Int32)) hx hb d_law_421 (by decide) ?_
  refine lv_lshl (v := j_shl ((xs (x3 + (2 : Int32)).toNatClampNeg).toInt64) (32 : Int32)) hx hb d_law_423 rfl ?_
  refine lv_aload_n hx hb d_law_424 rfl (lv_at hl 0 rfl) ?_
  refine lv_iload_n hx hb d_law_425 rfl (lv_at hl 3 rfl) ?_
  refine lv_iconst (v := 3) hx hb d_law_426 (by decide) ?_
  refine lv_iadd hx hb d_law_427 ?_
  refine va_sld hx hb hX hbl hbA G.2.2 (sc_in ex hi hL (k := 3) (by decide)) d_law_428 ?_
  refine lv_i2l hx hb d_law_429 rfl ?_
  refine lv_ldc2 (v := (4294967295 : Int64)) hx hb hown (hts _ (gt tw_713)) d_law_430 ?_
  refine lv_land hx hb d_law_433 ?_
  refine lv_lor hx hb d_law_434 ?_
  refine hg2_ci (As := [.int (xs (x3 + (1 : Int32)).toNatClampNeg), .long ((j_shl ((xs (x3 + (2 : Int32)).toNatClampNeg).toInt64) (32 : Int32)) ||| (((xs (x3 + (3 : Int32)).toNatClampNeg).toInt64) &&& (4294967295 : Int64)))]) (rest := []) (wa := cW ad cJ cI S) (wb := mW bd cJ cI M) ⟨hx, hb, hml, hown, hts⟩ (c_L_keep_IJ l dC dI ad cJ cI S (xs (x3 + (1 : Int32)).toNatClampNeg) ((j_shl ((xs (x3 + (2 : Int32)).toNatClampNeg).toInt64) (32 : Int32)) ||| (((xs (x3 + (3 : Int32)).toNatClampNeg).toInt64) &&& (4294967295 : Int64))) _) (gq_callV (k := 2) (fun w h => gt h) hts tw_286 tw_287 tw_288 tw_1 tw_289 (by decide +kernel) rfl rfl ⟨Nat.le_of_ble_eq_true rfl, Nat.le_of_ble_eq_true rfl⟩) hK G hA (hx_T _ _) 0 0 rfl rfl rfl hl.1 rfl (Nat.le_of_ble_eq_true rfl) ⟨Nat.le_of_ble_eq_true rfl, Nat.le_of_ble_eq_true rfl⟩ d_law_435 (fun H locs G => ?_)
  refine lv_aload_n hx hb d_law_438 rfl (lv_at hl 2 rfl) ?_
  refine lv_aload_n hx hb d_law_439 rfl (lv_at hl 0 rfl) ?_
  refine lv_iload_n hx hb d_law_440 rfl (lv_at hl 3 rfl) ?_
  refine lv_iconst (v := 1) hx hb d_law_441 (by decide) ?_
  refine lv_iadd hx hb d_law_442 ?_
  refine va_sld hx hb hX hbl hbA G.2.2 (sc_in ex hi hL (k := 1) (by decide)) d_law_443 ?_
  refine lv_aload_n hx hb d_law_444 rfl (lv_at hl 0 rfl) ?_
  refine lv_iload_n hx hb d_law_445 rfl (lv_at hl 3 rfl) ?_
  refine lv_iconst (v := 2) hx hb d_law_446 (by decide) ?_
  refine lv_iadd hx hb d_law_447 ?_
  refine va_sld hx hb hX hbl hbA G.2.2 (sc_in ex hi hL (k := 2) (by decide)) d_law_448 ?_
  refine lv_i2l hx hb d_law_449 rfl ?_
  refine lv_bipush (v := (32 : Int32)) hx hb d_law_450 (by decide) ?_
  refine lv_lshl (v := j_shl ((xs (x3 + (2 : Int32)).toNatClampNeg).toInt64) (32 : Int32)) hx hb d_law_452 rfl ?_
  refine lv_aload_n hx hb d_law_453 rfl (lv_at hl 0 rfl) ?_
  refine lv_iload_n hx hb d_law_454 rfl (lv_at hl 3 rfl) ?_
  refine lv_iconst (v := 3) hx hb d_law_455 (by decide) ?_
  refine lv_iadd hx hb d_law_456 ?_
  refine va_sld hx hb hX hbl hbA G.2.2 (sc_in ex hi hL (k := 3) (by decide)) d_law_457 ?_
  refine lv_i2l hx hb d_law_458 rfl ?_
  refine lv_ldc2 (v := (4294967295 : Int64)) hx hb hown (hts _ (gt tw_713)) d_law_459 ?_
  refine lv_land hx hb d_law_462 ?_
  refine lv_lor hx hb d_law_463 ?_
  refine hg2_ci (As := [.int (xs (x3 + (1 : Int32)).toNatClampNeg), .long ((j_shl ((xs (x3 + (2 : Int32)).toNatClampNeg).toInt64) (32 : Int32)) ||| (((xs (x3 + (3 : Int32)).toNatClampNeg).toInt64) &&& (4294967295 : Int64)))]) (rest := [.int ((f_L_keep_IJ S (xs (x3 + (1 : Int32)).toNatClampNeg) ((j_shl ((xs (x3 + (2 : Int32)).toNatClampNeg).toInt64) (32 : Int32)) ||| (((xs (x3 + (3 : Int32)).toNatClampNeg).toInt64) &&& (4294967295 : Int64)))).1)]) (wa := mW bd cJ cI M) (wb := cW ad cJ cI ((f_L_keep_IJ S (xs (x3 + (1 : Int32)).toNatClampNeg) ((j_shl ((xs (x3 + (2 : Int32)).toNatClampNeg).toInt64) (32 : Int32)) ||| (((xs (x3 + (3 : Int32)).toNatClampNeg).toInt64) &&& (4294967295 : Int64)))).2)) ⟨hx, hb, hml, hown, hts⟩ (c_M_keep_IJ l dC dI bd cJ cI t0 t1 t2 M (xs (x3 + (1 : Int32)).toNatClampNeg) ((j_shl ((xs (x3 + (2 : Int32)).toNatClampNeg).toInt64) (32 : Int32)) ||| (((xs (x3 + (3 : Int32)).toNatClampNeg).toInt64) &&& (4294967295 : Int64))) _) (gq_callV (k := 2) (fun w h => gt h) hts tw_654 tw_655 tw_656 tw_4 tw_657 (by decide +kernel) rfl rfl ⟨Nat.le_of_ble_eq_true rfl, Nat.le_of_ble_eq_true rfl⟩) hK G hA (hx_M hRT (hg_fst G) hA) 3 0 rfl rfl rfl hl.1 rfl (Nat.le_of_ble_eq_true rfl) ⟨Nat.le_of_ble_eq_true rfl, Nat.le_of_ble_eq_true rfl⟩ d_law_464 (fun H locs G => ?_)
  refine lv_icmp_eq (tgt := 796) hx hb d_law_467 (by decide) (fun _ => ?_) (fun c9 => absurd (Z_keep hR (xs (x3 + (1 : Int32)).toNatClampNeg) ((j_shl ((xs (x3 + (2 : Int32)).toNatClampNeg).toInt64) (32 : Int32)) ||| (((xs (x3 + (3 : Int32)).toNatClampNeg).toInt64) &&& (4294967295 : Int64)))).1 c9)
  exact kk _ _ _ _ _ (Z_keep hR (xs (x3 + (1 : Int32)).toNatClampNeg) ((j_shl ((xs (x3 + (2 : Int32)).toNatClampNeg).toInt64) (32 : Int32)) ||| (((xs (x3 + (3 : Int32)).toNatClampNeg).toInt64) &&& (4294967295 : Int64)))).2 G hl
set_option maxHeartbeats 4000000 in
set_option maxRecDepth 100000 in
theorem law_c8 {p : Program} {l : Launch} {e : Env} {s : State} {m : MethodId} {below : List Frame} {meth : Method} {c : Code} {dC : Nat → ClassId} {dI : Nat → Nat → Nat} {b L : Nat} {xs : Nat → Int32} {ad bd : Nat → Nat} {cJ cI : ClassId} {t0 t1 t2 : Nat} (hL : L ≤ 3072) (C0 : lw_At p s m meth c b L xs) (hRT : RTA t0 t1 t2 (lwB s) s s.heap) (hK : va_K (dC, dI) classes (tysJI cJ cI) s) {i : Nat} {x3 : Int32} (ex : x3 = nI i) (hi : i + 6 ≤ L) {S : CS} {M : MS} (hR : Rel 0 S M) {H : Heap} {locs : List Loc} (G : lwG dC dI ad bd cJ cI s S M H locs) {ls : Array Slot} (hl : lwL ls b ad bd x3)
    (kk : ∀ (S1 : CS) (M1 : MS) (H1 : Heap) (locs1 : List Loc) (ls1 : Array Slot), Rel 0 S1 M1 → lwG dC dI ad bd cJ cI s S1 M1 H1 locs1 → lwL ls1 b ad bd x3 → W p l e room_1 s m #[Value.ref b] below meth c H1 locs1 23 279 (lw_Z below #[Value.ref b] s) (F0 m 796 ls1 [])) : W p l e room_1 s m #[Value.ref b] below meth c H locs 23 279 (lw_Z below #[Value.ref b] s) (F0 m 472 ls []) := by
  obtain ⟨hx, hb, hr, hml, hown, hts, hX, hbl, hlocks, hgv⟩ := C0
  have hA : ∀ q : Nat, s.heap.size ≤ q → lwB s q := fun _ h => h
  have hbA : ¬ lwB s b := Nat.not_le.mpr hbl
  refine lv_aload_n hx hb d_law_472 rfl (lv_at hl 1 rfl) ?_
  refine lv_aload_n hx hb d_law_473 rfl (lv_at hl 0 rfl) ?_
  refine lv_iload_n hx hb d_law_474 rfl (lv_at hl 3 rfl) ?_
  refine lv_iconst (v := 1) hx hb d_law_475 (by decide) ?_
  refine lv_iadd hx hb d_law_476 ?_
  refine va_sld hx hb hX hbl hbA G.2.2 (sc_in ex hi hL (k := 1) (by decide)) d_law_477 ?_
  refine lv_aload_n hx hb d_law_478 rfl (lv_at hl 0 rfl) ?_
  refine lv_iload_n hx hb d_law_479 rfl (lv_at hl 3 rfl) ?_
  refine lv_iconst (v := 2) hx hb d_law_480 (by decide) ?_
  refine lv_iadd hx hb d_law_481 ?_
  refine va_sld hx hb hX hbl hbA G.2.2 (sc_in ex hi hL (k := 2) (by decide)) d_law_482 ?_
  refine lv_aload_n hx hb d_law_483 rfl (lv_at hl 0 rfl) ?_
  refine lv_iload_n hx hb d_law_484 rfl (lv_at hl 3 rfl) ?_
  refine lv_iconst (v := 3) hx hb d_law_485 (by decide) ?_
  refine lv_iadd hx hb d_law_486 ?_
  refine va_sld hx hb hX hbl hbA G.2.2 (sc_in ex hi hL (k := 3) (by decide)) d_law_487 ?_
  refine lv_aload_n hx hb d_law_488 rfl (lv_at hl 0 rfl) ?_
  refine lv_iload_n hx hb d_law_489 rfl (lv_at hl 3 rfl) ?_
  refine lv_iconst (v := 4) hx hb d_law_490 (by decide) ?_
  refine lv_iadd hx hb d_law_491 ?_
  refine va_sld hx hb hX hbl hbA G.2.2 (sc_in ex hi hL (k := 4) (by decide)) d_law_492 ?_
  refine hg2_cl (As := [.int (xs (x3 + (1 : Int32)).toNatClampNeg), .int (xs (x3 + (2 : Int32)).toNatClampNeg), .int (xs (x3 + (3 : Int32)).toNatClampNeg), .int (xs (x3 + (4 : Int32)).toNatClampNeg)]) (rest := []) (wa := cW ad cJ cI S) (wb := mW bd cJ cI M) ⟨hx, hb, hml, hown, hts⟩ (c_L_reckon_IIII l dC dI ad cJ cI S (xs (x3 + (1 : Int32)).toNatClampNeg) (xs (x3 + (2 : Int32)).toNatClampNeg) (xs (x3 + (3 : Int32)).toNatClampNeg) (xs (x3 + (4 : Int32)).toNatClampNeg) _) (gq_callV (k := 4) (fun w h => gt h) hts tw_294 tw_295 tw_296 tw_1 tw_297 (by decide +kernel) rfl rfl ⟨Nat.le_of_ble_eq_true rfl, Nat.le_of_ble_eq_true rfl⟩) hK G hA (hx_T _ _) 0 0 rfl rfl rfl hl.1 rfl (Nat.le_of_ble_eq_true rfl) ⟨Nat.le_of_ble_eq_true rfl, Nat.le_of_ble_eq_true rfl⟩ d_law_493 (fun H locs G => ?_)
  refine lv_aload_n hx hb d_law_496 rfl (lv_at hl 2 rfl) ?_
  refine lv_aload_n hx hb d_law_497 rfl (lv_at hl 0 rfl) ?_
  refine lv_iload_n hx hb d_law_498 rfl (lv_at hl 3 rfl) ?_
  refine lv_iconst (v := 1) hx hb d_law_499 (by decide) ?_
  refine lv_iadd hx hb d_law_500 ?_
  refine va_sld hx hb hX hbl hbA G.2.2 (sc_in ex hi hL (k := 1) (by decide)) d_law_501 ?_
  refine lv_aload_n hx hb d_law_502 rfl (lv_at hl 0 rfl) ?_
  refine lv_iload_n hx hb d_law_503 rfl (lv_at hl 3 rfl) ?_
  refine lv_iconst (v := 2) hx hb d_law_504 (by decide) ?_
  refine lv_iadd hx hb d_law_505 ?_
  refine va_sld hx hb hX hbl hbA G.2.2 (sc_in ex hi hL (k := 2) (by decide)) d_law_506 ?_
  refine lv_aload_n hx hb d_law_507 rfl (lv_at hl 0 rfl) ?_
  refine lv_iload_n hx hb d_law_508 rfl (lv_at hl 3 rfl) ?_
  refine lv_iconst (v := 3) hx hb d_law_509 (by decide) ?_
  refine lv_iadd hx hb d_law_510 ?_
  refine va_sld hx hb hX hbl hbA G.2.2 (sc_in ex hi hL (k := 3) (by decide)) d_law_511 ?_
  refine lv_aload_n hx hb d_law_512 rfl (lv_at hl 0 rfl) ?_
  refine lv_iload_n hx hb d_law_513 rfl (lv_at hl 3 rfl) ?_
  refine lv_iconst (v := 4) hx hb d_law_514 (by decide) ?_
  refine lv_iadd hx hb d_law_515 ?_
  refine va_sld hx hb hX hbl hbA G.2.2 (sc_in ex hi hL (k := 4) (by decide)) d_law_516 ?_
  refine hg2_cl (As := [.int (xs (x3 + (1 : Int32)).toNatClampNeg), .int (xs (x3 + (2 : Int32)).toNatClampNeg), .int (xs (x3 + (3 : Int32)).toNatClampNeg), .int (xs (x3 + (4 : Int32)).toNatClampNeg)]) (rest := [.long ((f_L_reckon_IIII S (xs (x3 + (1 : Int32)).toNatClampNeg) (xs (x3 + (2 : Int32)).toNatClampNeg) (xs (x3 + (3 : Int32)).toNatClampNeg) (xs (x3 + (4 : Int32)).toNatClampNeg)).1)]) (wa := mW bd cJ cI M) (wb := cW ad cJ cI ((f_L_reckon_IIII S (xs (x3 + (1 : Int32)).toNatClampNeg) (xs (x3 + (2 : Int32)).toNatClampNeg) (xs (x3 + (3 : Int32)).toNatClampNeg) (xs (x3 + (4 : Int32)).toNatClampNeg)).2)) ⟨hx, hb, hml, hown, hts⟩ (c_M_reckon_IIII l dC dI bd cJ cI t0 t1 t2 M (xs (x3 + (1 : Int32)).toNatClampNeg) (xs (x3 + (2 : Int32)).toNatClampNeg) (xs (x3 + (3 : Int32)).toNatClampNeg) (xs (x3 + (4 : Int32)).toNatClampNeg) _) (gq_callV (k := 4) (fun w h => gt h) hts tw_658 tw_659 tw_660 tw_4 tw_661 (by decide +kernel) rfl rfl ⟨Nat.le_of_ble_eq_true rfl, Nat.le_of_ble_eq_true rfl⟩) hK G hA (hx_M hRT (hg_fst G) hA) 3 0 rfl rfl rfl hl.1 rfl (Nat.le_of_ble_eq_true rfl) ⟨Nat.le_of_ble_eq_true rfl, Nat.le_of_ble_eq_true rfl⟩ d_law_517 (fun H locs G => ?_)
  refine W.lcmp hx hb d_law_520 ?_
  refine lv_if_eq (tgt := 796) hx hb d_law_521 (by decide) (fun _ => ?_) (fun c9 => absurd ((lg_cmp_eq _ _).mpr (Z_reckon hR (xs (x3 + (1 : Int32)).toNatClampNeg) (xs (x3 + (2 : Int32)).toNatClampNeg) (xs (x3 + (3 : Int32)).toNatClampNeg) (xs (x3 + (4 : Int32)).toNatClampNeg)).1) c9)
  exact kk _ _ _ _ _ (Z_reckon hR (xs (x3 + (1 : Int32)).toNatClampNeg) (xs (x3 + (2 : Int32)).toNatClampNeg) (xs (x3 + (3 : Int32)).toNatClampNeg) (xs (x3 + (4 : Int32)).toNatClampNeg)).2 G hl
set_option maxHeartbeats 4000000 in
set_option maxRecDepth 100000 in
theorem law_c9 {p : Program} {l : Launch} {e : Env} {s : State} {m : MethodId} {below : List Frame} {meth : Method} {c : Code} {dC : Nat → ClassId} {dI : Nat → Nat → Nat} {b L : Nat} {xs : Nat → Int32} {ad bd : Nat → Nat} {cJ cI : ClassId} {t0 t1 t2 : Nat} (hL : L ≤ 3072) (C0 : lw_At p s m meth c b L xs) (hRT : RTA t0 t1 t2 (lwB s) s s.heap) (hK : va_K (dC, dI) classes (tysJI cJ cI) s) {i : Nat} {x3 : Int32} (ex : x3 = nI i) (hi : i + 6 ≤ L) {S : CS} {M : MS} (hR : Rel 0 S M) {H : Heap} {locs : List Loc} (G : lwG dC dI ad bd cJ cI s S M H locs) {ls : Array Slot} (hl : lwL ls b ad bd x3)
    (kk : ∀ (S1 : CS) (M1 : MS) (H1 : Heap) (locs1 : List Loc) (ls1 : Array Slot), Rel 0 S1 M1 → lwG dC dI ad bd cJ cI s S1 M1 H1 locs1 → lwL ls1 b ad bd x3 → W p l e room_1 s m #[Value.ref b] below meth c H1 locs1 23 279 (lw_Z below #[Value.ref b] s) (F0 m 796 ls1 [])) : W p l e room_1 s m #[Value.ref b] below meth c H locs 23 279 (lw_Z below #[Value.ref b] s) (F0 m 526 ls []) := by
  obtain ⟨hx, hb, hr, hml, hown, hts, hX, hbl, hlocks, hgv⟩ := C0
  have hA : ∀ q : Nat, s.heap.size ≤ q → lwB s q := fun _ h => h
  have hbA : ¬ lwB s b := Nat.not_le.mpr hbl
  refine lv_aload_n hx hb d_law_526 rfl (lv_at hl 1 rfl) ?_
  refine lv_aload_n hx hb d_law_527 rfl (lv_at hl 0 rfl) ?_
  refine lv_iload_n hx hb d_law_528 rfl (lv_at hl 3 rfl) ?_
  refine lv_iconst (v := 1) hx hb d_law_529 (by decide) ?_
  refine lv_iadd hx hb d_law_530 ?_
  refine va_sld hx hb hX hbl hbA G.2.2 (sc_in ex hi hL (k := 1) (by decide)) d_law_531 ?_
  refine lv_aload_n hx hb d_law_532 rfl (lv_at hl 0 rfl) ?_
  refine lv_iload_n hx hb d_law_533 rfl (lv_at hl 3 rfl) ?_
  refine lv_iconst (v := 2) hx hb d_law_534 (by decide) ?_
  refine lv_iadd hx hb d_law_535 ?_
  refine va_sld hx hb hX hbl hbA G.2.2 (sc_in ex hi hL (k := 2) (by decide)) d_law_536 ?_
  refine lv_aload_n hx hb d_law_537 rfl (lv_at hl 0 rfl) ?_
  refine lv_iload_n hx hb d_law_538 rfl (lv_at hl 3 rfl) ?_
  refine lv_iconst (v := 3) hx hb d_law_539 (by decide) ?_
  refine lv_iadd hx hb d_law_540 ?_
  refine va_sld hx hb hX hbl hbA G.2.2 (sc_in ex hi hL (k := 3) (by decide)) d_law_541 ?_
  refine lv_i2l hx hb d_law_542 rfl ?_
  refine lv_bipush (v := (32 : Int32)) hx hb d_law_543 (by decide) ?_
  refine lv_lshl (v := j_shl ((xs (x3 + (3 : Int32)).toNatClampNeg).toInt64) (32 : Int32)) hx hb d_law_545 rfl ?_
  refine lv_aload_n hx hb d_law_546 rfl (lv_at hl 0 rfl) ?_
  refine lv_iload_n hx hb d_law_547 rfl (lv_at hl 3 rfl) ?_
  refine lv_iconst (v := 4) hx hb d_law_548 (by decide) ?_
  refine lv_iadd hx hb d_law_549 ?_
  refine va_sld hx hb hX hbl hbA G.2.2 (sc_in ex hi hL (k := 4) (by decide)) d_law_550 ?_
  refine lv_i2l hx hb d_law_551 rfl ?_
  refine lv_ldc2 (v := (4294967295 : Int64)) hx hb hown (hts _ (gt tw_713)) d_law_552 ?_
  refine lv_land hx hb d_law_555 ?_
  refine lv_lor hx hb d_law_556 ?_
  refine hg2_cl (As := [.int (xs (x3 + (1 : Int32)).toNatClampNeg), .int (xs (x3 + (2 : Int32)).toNatClampNeg), .long ((j_shl ((xs (x3 + (3 : Int32)).toNatClampNeg).toInt64) (32 : Int32)) ||| (((xs (x3 + (4 : Int32)).toNatClampNeg).toInt64) &&& (4294967295 : Int64)))]) (rest := []) (wa := cW ad cJ cI S) (wb := mW bd cJ cI M) ⟨hx, hb, hml, hown, hts⟩ (c_L_whole_IIJ l dC dI ad cJ cI S (xs (x3 + (1 : Int32)).toNatClampNeg) (xs (x3 + (2 : Int32)).toNatClampNeg) ((j_shl ((xs (x3 + (3 : Int32)).toNatClampNeg).toInt64) (32 : Int32)) ||| (((xs (x3 + (4 : Int32)).toNatClampNeg).toInt64) &&& (4294967295 : Int64))) _) (gq_callV (k := 3) (fun w h => gt h) hts tw_325 tw_326 tw_327 tw_1 tw_328 (by decide +kernel) rfl rfl ⟨Nat.le_of_ble_eq_true rfl, Nat.le_of_ble_eq_true rfl⟩) hK G hA (hx_T _ _) 0 0 rfl rfl rfl hl.1 rfl (Nat.le_of_ble_eq_true rfl) ⟨Nat.le_of_ble_eq_true rfl, Nat.le_of_ble_eq_true rfl⟩ d_law_557 (fun H locs G => ?_)
  refine lv_aload_n hx hb d_law_560 rfl (lv_at hl 2 rfl) ?_
  refine lv_aload_n hx hb d_law_561 rfl (lv_at hl 0 rfl) ?_
  refine lv_iload_n hx hb d_law_562 rfl (lv_at hl 3 rfl) ?_
  refine lv_iconst (v := 1) hx hb d_law_563 (by decide) ?_
  refine lv_iadd hx hb d_law_564 ?_
  refine va_sld hx hb hX hbl hbA G.2.2 (sc_in ex hi hL (k := 1) (by decide)) d_law_565 ?_
  refine lv_aload_n hx hb d_law_566 rfl (lv_at hl 0 rfl) ?_
  refine lv_iload_n hx hb d_law_567 rfl (lv_at hl 3 rfl) ?_
  refine lv_iconst (v := 2) hx hb d_law_568 (by decide) ?_
  refine lv_iadd hx hb d_law_569 ?_
  refine va_sld hx hb hX hbl hbA G.2.2 (sc_in ex hi hL (k := 2) (by decide)) d_law_570 ?_
  refine lv_aload_n hx hb d_law_571 rfl (lv_at hl 0 rfl) ?_
  refine lv_iload_n hx hb d_law_572 rfl (lv_at hl 3 rfl) ?_
  refine lv_iconst (v := 3) hx hb d_law_573 (by decide) ?_
  refine lv_iadd hx hb d_law_574 ?_
  refine va_sld hx hb hX hbl hbA G.2.2 (sc_in ex hi hL (k := 3) (by decide)) d_law_575 ?_
  refine lv_i2l hx hb d_law_576 rfl ?_
  refine lv_bipush (v := (32 : Int32)) hx hb d_law_577 (by decide) ?_
  refine lv_lshl (v := j_shl ((xs (x3 + (3 : Int32)).toNatClampNeg).toInt64) (32 : Int32)) hx hb d_law_579 rfl ?_
  refine lv_aload_n hx hb d_law_580 rfl (lv_at hl 0 rfl) ?_
  refine lv_iload_n hx hb d_law_581 rfl (lv_at hl 3 rfl) ?_
  refine lv_iconst (v := 4) hx hb d_law_582 (by decide) ?_
  refine lv_iadd hx hb d_law_583 ?_
  refine va_sld hx hb hX hbl hbA G.2.2 (sc_in ex hi hL (k := 4) (by decide)) d_law_584 ?_
  refine lv_i2l hx hb d_law_585 rfl ?_
  refine lv_ldc2 (v := (4294967295 : Int64)) hx hb hown (hts _ (gt tw_713)) d_law_586 ?_
  refine lv_land hx hb d_law_589 ?_
  refine lv_lor hx hb d_law_590 ?_
  refine hg2_cl (As := [.int (xs (x3 + (1 : Int32)).toNatClampNeg), .int (xs (x3 + (2 : Int32)).toNatClampNeg), .long ((j_shl ((xs (x3 + (3 : Int32)).toNatClampNeg).toInt64) (32 : Int32)) ||| (((xs (x3 + (4 : Int32)).toNatClampNeg).toInt64) &&& (4294967295 : Int64)))]) (rest := [.long ((f_L_whole_IIJ S (xs (x3 + (1 : Int32)).toNatClampNeg) (xs (x3 + (2 : Int32)).toNatClampNeg) ((j_shl ((xs (x3 + (3 : Int32)).toNatClampNeg).toInt64) (32 : Int32)) ||| (((xs (x3 + (4 : Int32)).toNatClampNeg).toInt64) &&& (4294967295 : Int64)))).1)]) (wa := mW bd cJ cI M) (wb := cW ad cJ cI ((f_L_whole_IIJ S (xs (x3 + (1 : Int32)).toNatClampNeg) (xs (x3 + (2 : Int32)).toNatClampNeg) ((j_shl ((xs (x3 + (3 : Int32)).toNatClampNeg).toInt64) (32 : Int32)) ||| (((xs (x3 + (4 : Int32)).toNatClampNeg).toInt64) &&& (4294967295 : Int64)))).2)) ⟨hx, hb, hml, hown, hts⟩ (c_M_whole_IIJ l dC dI bd cJ cI t0 t1 t2 M (xs (x3 + (1 : Int32)).toNatClampNeg) (xs (x3 + (2 : Int32)).toNatClampNeg) ((j_shl ((xs (x3 + (3 : Int32)).toNatClampNeg).toInt64) (32 : Int32)) ||| (((xs (x3 + (4 : Int32)).toNatClampNeg).toInt64) &&& (4294967295 : Int64))) _) (gq_callV (k := 3) (fun w h => gt h) hts tw_671 tw_672 tw_673 tw_4 tw_674 (by decide +kernel) rfl rfl ⟨Nat.le_of_ble_eq_true rfl, Nat.le_of_ble_eq_true rfl⟩) hK G hA (hx_M hRT (hg_fst G) hA) 3 0 rfl rfl rfl hl.1 rfl (Nat.le_of_ble_eq_true rfl) ⟨Nat.le_of_ble_eq_true rfl, Nat.le_of_ble_eq_true rfl⟩ d_law_591 (fun H locs G => ?_)
  refine W.lcmp hx hb d_law_594 ?_
  refine lv_if_eq (tgt := 796) hx hb d_law_595 (by decide) (fun _ => ?_) (fun c9 => absurd ((lg_cmp_eq _ _).mpr (Z_whole hR (xs (x3 + (1 : Int32)).toNatClampNeg) (xs (x3 + (2 : Int32)).toNatClampNeg) ((j_shl ((xs (x3 + (3 : Int32)).toNatClampNeg).toInt64) (32 : Int32)) ||| (((xs (x3 + (4 : Int32)).toNatClampNeg).toInt64) &&& (4294967295 : Int64)))).1) c9)
  exact kk _ _ _ _ _ (Z_whole hR (xs (x3 + (1 : Int32)).toNatClampNeg) (xs (x3 + (2 : Int32)).toNatClampNeg) ((j_shl ((xs (x3 + (3 : Int32)).toNatClampNeg).toInt64) (32 : Int32)) ||| (((xs (x3 + (4 : Int32)).toNatClampNeg).toInt64) &&& (4294967295 : Int64)))).2 G hl
set_option maxHeartbeats 4000000 in
set_option maxRecDepth 100000 in
theorem law_c10 {p : Program} {l : Launch} {e : Env} {s : State} {m : MethodId} {below : List Frame} {meth : Method} {c : Code} {dC : Nat → ClassId} {dI : Nat → Nat → Nat} {b L : Nat} {xs : Nat → Int32} {ad bd : Nat → Nat} {cJ cI : ClassId} {t0 t1 t2 : Nat} (hL : L ≤ 3072) (C0 : lw_At p s m meth c b L xs) (hRT : RTA t0 t1 t2 (lwB s) s s.heap) (hK : va_K (dC, dI) classes (tysJI cJ cI) s) {i : Nat} {x3 : Int32} (ex : x3 = nI i) (hi : i + 6 ≤ L) {S : CS} {M : MS} (hR : Rel 0 S M) {H : Heap} {locs : List Loc} (G : lwG dC dI ad bd cJ cI s S M H locs) {ls : Array Slot} (hl : lwL ls b ad bd x3)
    (kk : ∀ (S1 : CS) (M1 : MS) (H1 : Heap) (locs1 : List Loc) (ls1 : Array Slot), Rel 0 S1 M1 → lwG dC dI ad bd cJ cI s S1 M1 H1 locs1 → lwL ls1 b ad bd x3 → W p l e room_1 s m #[Value.ref b] below meth c H1 locs1 23 279 (lw_Z below #[Value.ref b] s) (F0 m 796 ls1 [])) : W p l e room_1 s m #[Value.ref b] below meth c H locs 23 279 (lw_Z below #[Value.ref b] s) (F0 m 600 ls []) := by
  obtain ⟨hx, hb, hr, hml, hown, hts, hX, hbl, hlocks, hgv⟩ := C0
  have hA : ∀ q : Nat, s.heap.size ≤ q → lwB s q := fun _ h => h
  have hbA : ¬ lwB s b := Nat.not_le.mpr hbl
  refine lv_aload_n hx hb d_law_600 rfl (lv_at hl 1 rfl) ?_
  refine lv_aload_n hx hb d_law_601 rfl (lv_at hl 0 rfl) ?_
  refine lv_iload_n hx hb d_law_602 rfl (lv_at hl 3 rfl) ?_
  refine lv_iconst (v := 1) hx hb d_law_603 (by decide) ?_
  refine lv_iadd hx hb d_law_604 ?_
  refine va_sld hx hb hX hbl hbA G.2.2 (sc_in ex hi hL (k := 1) (by decide)) d_law_605 ?_
  refine lv_aload_n hx hb d_law_606 rfl (lv_at hl 0 rfl) ?_
  refine lv_iload_n hx hb d_law_607 rfl (lv_at hl 3 rfl) ?_
  refine lv_iconst (v := 2) hx hb d_law_608 (by decide) ?_
  refine lv_iadd hx hb d_law_609 ?_
  refine va_sld hx hb hX hbl hbA G.2.2 (sc_in ex hi hL (k := 2) (by decide)) d_law_610 ?_
  refine hg2_cl (As := [.int (xs (x3 + (1 : Int32)).toNatClampNeg), .int (xs (x3 + (2 : Int32)).toNatClampNeg)]) (rest := []) (wa := cW ad cJ cI S) (wb := mW bd cJ cI M) ⟨hx, hb, hml, hown, hts⟩ (c_L_cast_II l dC dI ad cJ cI S (xs (x3 + (1 : Int32)).toNatClampNeg) (xs (x3 + (2 : Int32)).toNatClampNeg) _) (gq_callV (k := 2) (fun w h => gt h) hts tw_338 tw_339 tw_340 tw_1 tw_341 (by decide +kernel) rfl rfl ⟨Nat.le_of_ble_eq_true rfl, Nat.le_of_ble_eq_true rfl⟩) hK G hA (hx_T _ _) 0 0 rfl rfl rfl hl.1 rfl (Nat.le_of_ble_eq_true rfl) ⟨Nat.le_of_ble_eq_true rfl, Nat.le_of_ble_eq_true rfl⟩ d_law_611 (fun H locs G => ?_)
  refine lv_aload_n hx hb d_law_614 rfl (lv_at hl 2 rfl) ?_
  refine lv_aload_n hx hb d_law_615 rfl (lv_at hl 0 rfl) ?_
  refine lv_iload_n hx hb d_law_616 rfl (lv_at hl 3 rfl) ?_
  refine lv_iconst (v := 1) hx hb d_law_617 (by decide) ?_
  refine lv_iadd hx hb d_law_618 ?_
  refine va_sld hx hb hX hbl hbA G.2.2 (sc_in ex hi hL (k := 1) (by decide)) d_law_619 ?_
  refine lv_aload_n hx hb d_law_620 rfl (lv_at hl 0 rfl) ?_
  refine lv_iload_n hx hb d_law_621 rfl (lv_at hl 3 rfl) ?_
  refine lv_iconst (v := 2) hx hb d_law_622 (by decide) ?_
  refine lv_iadd hx hb d_law_623 ?_
  refine va_sld hx hb hX hbl hbA G.2.2 (sc_in ex hi hL (k := 2) (by decide)) d_law_624 ?_
  refine hg2_cl (As := [.int (xs (x3 + (1 : Int32)).toNatClampNeg), .int (xs (x3 + (2 : Int32)).toNatClampNeg)]) (rest := [.long (f_L_cast_II S (xs (x3 + (1 : Int32)).toNatClampNeg) (xs (x3 + (2 : Int32)).toNatClampNeg))]) (wa := mW bd cJ cI M) (wb := cW ad cJ cI S) ⟨hx, hb, hml, hown, hts⟩ (c_M_cast_II l dC dI bd cJ cI t0 t1 t2 M (xs (x3 + (1 : Int32)).toNatClampNeg) (xs (x3 + (2 : Int32)).toNatClampNeg) _) (gq_callV (k := 2) (fun w h => gt h) hts tw_677 tw_678 tw_679 tw_4 tw_680 (by decide +kernel) rfl rfl ⟨Nat.le_of_ble_eq_true rfl, Nat.le_of_ble_eq_true rfl⟩) hK G hA (hx_M hRT (hg_fst G) hA) 3 0 rfl rfl rfl hl.1 rfl (Nat.le_of_ble_eq_true rfl) ⟨Nat.le_of_ble_eq_true rfl, Nat.le_of_ble_eq_true rfl⟩ d_law_625 (fun H locs G => ?_)
  refine W.lcmp hx hb d_law_628 ?_
  refine lv_if_eq (tgt := 796) hx hb d_law_629 (by decide) (fun _ => ?_) (fun c9 => absurd ((lg_cmp_eq _ _).mpr (Z_cast hR (xs (x3 + (1 : Int32)).toNatClampNeg) (xs (x3 + (2 : Int32)).toNatClampNeg))) c9)
  exact kk _ _ _ _ _ hR G hl
set_option maxHeartbeats 4000000 in
set_option maxRecDepth 100000 in
theorem law_c11 {p : Program} {l : Launch} {e : Env} {s : State} {m : MethodId} {below : List Frame} {meth : Method} {c : Code} {dC : Nat → ClassId} {dI : Nat → Nat → Nat} {b L : Nat} {xs : Nat → Int32} {ad bd : Nat → Nat} {cJ cI : ClassId} {t0 t1 t2 : Nat} (hL : L ≤ 3072) (C0 : lw_At p s m meth c b L xs) (hRT : RTA t0 t1 t2 (lwB s) s s.heap) (hK : va_K (dC, dI) classes (tysJI cJ cI) s) {i : Nat} {x3 : Int32} (ex : x3 = nI i) (hi : i + 6 ≤ L) {S : CS} {M : MS} (hR : Rel 0 S M) {H : Heap} {locs : List Loc} (G : lwG dC dI ad bd cJ cI s S M H locs) {ls : Array Slot} (hl : lwL ls b ad bd x3)
    (kk : ∀ (S1 : CS) (M1 : MS) (H1 : Heap) (locs1 : List Loc) (ls1 : Array Slot), Rel 0 S1 M1 → lwG dC dI ad bd cJ cI s S1 M1 H1 locs1 → lwL ls1 b ad bd x3 → W p l e room_1 s m #[Value.ref b] below meth c H1 locs1 23 279 (lw_Z below #[Value.ref b] s) (F0 m 796 ls1 [])) : W p l e room_1 s m #[Value.ref b] below meth c H locs 23 279 (lw_Z below #[Value.ref b] s) (F0 m 634 ls []) := by
  obtain ⟨hx, hb, hr, hml, hown, hts, hX, hbl, hlocks, hgv⟩ := C0
  have hA : ∀ q : Nat, s.heap.size ≤ q → lwB s q := fun _ h => h
  have hbA : ¬ lwB s b := Nat.not_le.mpr hbl
  refine lv_aload_n hx hb d_law_634 rfl (lv_at hl 1 rfl) ?_
  refine lv_aload_n hx hb d_law_635 rfl (lv_at hl 0 rfl) ?_
  refine lv_iload_n hx hb d_law_636 rfl (lv_at hl 3 rfl) ?_
  refine lv_iconst (v := 1) hx hb d_law_637 (by decide) ?_
  refine lv_iadd hx hb d_law_638 ?_
  refine va_sld hx hb hX hbl hbA G.2.2 (sc_in ex hi hL (k := 1) (by decide)) d_law_639 ?_
  refine lv_aload_n hx hb d_law_640 rfl (lv_at hl 0 rfl) ?_
  refine lv_iload_n hx hb d_law_641 rfl (lv_at hl 3 rfl) ?_
  refine lv_iconst (v := 2) hx hb d_law_642 (by decide) ?_
  refine lv_iadd hx hb d_law_643 ?_
  refine va_sld hx hb hX hbl hbA G.2.2 (sc_in ex hi hL (k := 2) (by decide)) d_law_644 ?_
  refine hg2_ci (As := [.int (xs (x3 + (1 : Int32)).toNatClampNeg), .int (xs (x3 + (2 : Int32)).toNatClampNeg)]) (rest := []) (wa := cW ad cJ cI S) (wb := mW bd cJ cI M) ⟨hx, hb, hml, hown, hts⟩ (c_L_compare_II l dC dI ad cJ cI S (xs (x3 + (1 : Int32)).toNatClampNeg) (xs (x3 + (2 : Int32)).toNatClampNeg) _) (gq_callV (k := 2) (fun w h => gt h) hts tw_358 tw_359 tw_360 tw_1 tw_361 (by decide +kernel) rfl rfl ⟨Nat.le_of_ble_eq_true rfl, Nat.le_of_ble_eq_true rfl⟩) hK G hA (hx_T _ _) 0 0 rfl rfl rfl hl.1 rfl (Nat.le_of_ble_eq_true rfl) ⟨Nat.le_of_ble_eq_true rfl, Nat.le_of_ble_eq_true rfl⟩ d_law_645 (fun H locs G => ?_)
  refine lv_aload_n hx hb d_law_648 rfl (lv_at hl 2 rfl) ?_
  refine lv_aload_n hx hb d_law_649 rfl (lv_at hl 0 rfl) ?_
  refine lv_iload_n hx hb d_law_650 rfl (lv_at hl 3 rfl) ?_
  refine lv_iconst (v := 1) hx hb d_law_651 (by decide) ?_
  refine lv_iadd hx hb d_law_652 ?_
  refine va_sld hx hb hX hbl hbA G.2.2 (sc_in ex hi hL (k := 1) (by decide)) d_law_653 ?_
  refine lv_aload_n hx hb d_law_654 rfl (lv_at hl 0 rfl) ?_
  refine lv_iload_n hx hb d_law_655 rfl (lv_at hl 3 rfl) ?_
  refine lv_iconst (v := 2) hx hb d_law_656 (by decide) ?_
  refine lv_iadd hx hb d_law_657 ?_
  refine va_sld hx hb hX hbl hbA G.2.2 (sc_in ex hi hL (k := 2) (by decide)) d_law_658 ?_
  refine hg2_ci (As := [.int (xs (x3 + (1 : Int32)).toNatClampNeg), .int (xs (x3 + (2 : Int32)).toNatClampNeg)]) (rest := [.int (f_L_compare_II S (xs (x3 + (1 : Int32)).toNatClampNeg) (xs (x3 + (2 : Int32)).toNatClampNeg))]) (wa := mW bd cJ cI M) (wb := cW ad cJ cI S) ⟨hx, hb, hml, hown, hts⟩ (c_M_compare_II l dC dI bd cJ cI t0 t1 t2 M (xs (x3 + (1 : Int32)).toNatClampNeg) (xs (x3 + (2 : Int32)).toNatClampNeg) _) (gq_callV (k := 2) (fun w h => gt h) hts tw_687 tw_688 tw_689 tw_4 tw_690 (by decide +kernel) rfl rfl ⟨Nat.le_of_ble_eq_true rfl, Nat.le_of_ble_eq_true rfl⟩) hK G hA (hx_M hRT (hg_fst G) hA) 3 0 rfl rfl rfl hl.1 rfl (Nat.le_of_ble_eq_true rfl) ⟨Nat.le_of_ble_eq_true rfl, Nat.le_of_ble_eq_true rfl⟩ d_law_659 (fun H locs G => ?_)
  refine lv_icmp_eq (tgt := 796) hx hb d_law_662 (by decide) (fun _ => ?_) (fun c9 => absurd (Z_compare hR (xs (x3 + (1 : Int32)).toNatClampNeg) (xs (x3 + (2 : Int32)).toNatClampNeg)) c9)
  exact kk _ _ _ _ _ hR G hl
set_option maxHeartbeats 4000000 in
set_option maxRecDepth 100000 in
theorem law_c12 {p : Program} {l : Launch} {e : Env} {s : State} {m : MethodId} {below : List Frame} {meth : Method} {c : Code} {dC : Nat → ClassId} {dI : Nat → Nat → Nat} {b L : Nat} {xs : Nat → Int32} {ad bd : Nat → Nat} {cJ cI : ClassId} {t0 t1 t2 : Nat} (hL : L ≤ 3072) (C0 : lw_At p s m meth c b L xs) (hRT : RTA t0 t1 t2 (lwB s) s s.heap) (hK : va_K (dC, dI) classes (tysJI cJ cI) s) {i : Nat} {x3 : Int32} (ex : x3 = nI i) (hi : i + 6 ≤ L) {S : CS} {M : MS} (hR : Rel 0 S M) {H : Heap} {locs : List Loc} (G : lwG dC dI ad bd cJ cI s S M H locs) {ls : Array Slot} (hl : lwL ls b ad bd x3)
    (kk : ∀ (S1 : CS) (M1 : MS) (H1 : Heap) (locs1 : List Loc) (ls1 : Array Slot), Rel 0 S1 M1 → lwG dC dI ad bd cJ cI s S1 M1 H1 locs1 → lwL ls1 b ad bd x3 → W p l e room_1 s m #[Value.ref b] below meth c H1 locs1 23 279 (lw_Z below #[Value.ref b] s) (F0 m 796 ls1 [])) : W p l e room_1 s m #[Value.ref b] below meth c H locs 23 279 (lw_Z below #[Value.ref b] s) (F0 m 667 ls []) := by
  obtain ⟨hx, hb, hr, hml, hown, hts, hX, hbl, hlocks, hgv⟩ := C0
  have hA : ∀ q : Nat, s.heap.size ≤ q → lwB s q := fun _ h => h
  have hbA : ¬ lwB s b := Nat.not_le.mpr hbl
  refine lv_aload_n hx hb d_law_667 rfl (lv_at hl 1 rfl) ?_
  refine hg2_cl (As := []) (rest := []) (wa := cW ad cJ cI S) (wb := mW bd cJ cI M) ⟨hx, hb, hml, hown, hts⟩ (c_L_energy l dC dI ad cJ cI S (rel_c hR) _) (gq_callV (k := 0) (fun w h => gt h) hts tw_364 tw_365 tw_366 tw_1 tw_367 (by decide +kernel) rfl rfl ⟨Nat.le_of_ble_eq_true rfl, Nat.le_of_ble_eq_true rfl⟩) hK G hA (hx_T _ _) 0 0 rfl rfl rfl hl.1 rfl (Nat.le_of_ble_eq_true rfl) ⟨Nat.le_of_ble_eq_true rfl, Nat.le_of_ble_eq_true rfl⟩ d_law_668 (fun H locs G => ?_)
  refine lv_aload_n hx hb d_law_671 rfl (lv_at hl 2 rfl) ?_
  refine hg2_cl (As := []) (rest := [.long (f_L_energy S)]) (wa := mW bd cJ cI M) (wb := cW ad cJ cI S) ⟨hx, hb, hml, hown, hts⟩ (c_M_energy l dC dI bd cJ cI t0 t1 t2 M (rel_m hR) _) (gq_callV (k := 0) (fun w h => gt h) hts tw_691 tw_692 tw_693 tw_4 tw_694 (by decide +kernel) rfl rfl ⟨Nat.le_of_ble_eq_true rfl, Nat.le_of_ble_eq_true rfl⟩) hK G hA (hx_M hRT (hg_fst G) hA) 3 0 rfl rfl rfl hl.1 rfl (Nat.le_of_ble_eq_true rfl) ⟨Nat.le_of_ble_eq_true rfl, Nat.le_of_ble_eq_true rfl⟩ d_law_672 (fun H locs G => ?_)
  refine W.lcmp hx hb d_law_675 ?_
  refine lv_if_eq (tgt := 796) hx hb d_law_676 (by decide) (fun _ => ?_) (fun c9 => absurd ((lg_cmp_eq _ _).mpr (Z_energy hR)) c9)
  exact kk _ _ _ _ _ hR G hl
set_option maxHeartbeats 4000000 in
set_option maxRecDepth 100000 in
theorem law_c13 {p : Program} {l : Launch} {e : Env} {s : State} {m : MethodId} {below : List Frame} {meth : Method} {c : Code} {dC : Nat → ClassId} {dI : Nat → Nat → Nat} {b L : Nat} {xs : Nat → Int32} {ad bd : Nat → Nat} {cJ cI : ClassId} {t0 t1 t2 : Nat} (hL : L ≤ 3072) (C0 : lw_At p s m meth c b L xs) (hRT : RTA t0 t1 t2 (lwB s) s s.heap) (hK : va_K (dC, dI) classes (tysJI cJ cI) s) {i : Nat} {x3 : Int32} (ex : x3 = nI i) (hi : i + 6 ≤ L) {S : CS} {M : MS} (hR : Rel 0 S M) {H : Heap} {locs : List Loc} (G : lwG dC dI ad bd cJ cI s S M H locs) {ls : Array Slot} (hl : lwL ls b ad bd x3)
    (kk : ∀ (S1 : CS) (M1 : MS) (H1 : Heap) (locs1 : List Loc) (ls1 : Array Slot), Rel 0 S1 M1 → lwG dC dI ad bd cJ cI s S1 M1 H1 locs1 → lwL ls1 b ad bd x3 → W p l e room_1 s m #[Value.ref b] below meth c H1 locs1 23 279 (lw_Z below #[Value.ref b] s) (F0 m 796 ls1 [])) : W p l e room_1 s m #[Value.ref b] below meth c H locs 23 279 (lw_Z below #[Value.ref b] s) (F0 m 681 ls []) := by
  obtain ⟨hx, hb, hr, hml, hown, hts, hX, hbl, hlocks, hgv⟩ := C0
  have hA : ∀ q : Nat, s.heap.size ≤ q → lwB s q := fun _ h => h
  have hbA : ¬ lwB s b := Nat.not_le.mpr hbl
  refine lv_aload_n hx hb d_law_681 rfl (lv_at hl 1 rfl) ?_
  refine lv_aload_n hx hb d_law_682 rfl (lv_at hl 0 rfl) ?_
  refine lv_iload_n hx hb d_law_683 rfl (lv_at hl 3 rfl) ?_
  refine lv_iconst (v := 1) hx hb d_law_684 (by decide) ?_
  refine lv_iadd hx hb d_law_685 ?_
  refine va_sld hx hb hX hbl hbA G.2.2 (sc_in ex hi hL (k := 1) (by decide)) d_law_686 ?_
  refine lv_aload_n hx hb d_law_687 rfl (lv_at hl 0 rfl) ?_
  refine lv_iload_n hx hb d_law_688 rfl (lv_at hl 3 rfl) ?_
  refine lv_iconst (v := 2) hx hb d_law_689 (by decide) ?_
  refine lv_iadd hx hb d_law_690 ?_
  refine va_sld hx hb hX hbl hbA G.2.2 (sc_in ex hi hL (k := 2) (by decide)) d_law_691 ?_
  refine hg2_cl (As := [.int (xs (x3 + (1 : Int32)).toNatClampNeg), .int (xs (x3 + (2 : Int32)).toNatClampNeg)]) (rest := []) (wa := cW ad cJ cI S) (wb := mW bd cJ cI M) ⟨hx, hb, hml, hown, hts⟩ (c_L_mean_II l dC dI ad cJ cI S (xs (x3 + (1 : Int32)).toNatClampNeg) (xs (x3 + (2 : Int32)).toNatClampNeg) _) (gq_callV (k := 2) (fun w h => gt h) hts tw_385 tw_386 tw_387 tw_1 tw_388 (by decide +kernel) rfl rfl ⟨Nat.le_of_ble_eq_true rfl, Nat.le_of_ble_eq_true rfl⟩) hK G hA (hx_T _ _) 0 0 rfl rfl rfl hl.1 rfl (Nat.le_of_ble_eq_true rfl) ⟨Nat.le_of_ble_eq_true rfl, Nat.le_of_ble_eq_true rfl⟩ d_law_692 (fun H locs G => ?_)
  refine lv_aload_n hx hb d_law_695 rfl (lv_at hl 2 rfl) ?_
  refine lv_aload_n hx hb d_law_696 rfl (lv_at hl 0 rfl) ?_
  refine lv_iload_n hx hb d_law_697 rfl (lv_at hl 3 rfl) ?_
  refine lv_iconst (v := 1) hx hb d_law_698 (by decide) ?_
  refine lv_iadd hx hb d_law_699 ?_
  refine va_sld hx hb hX hbl hbA G.2.2 (sc_in ex hi hL (k := 1) (by decide)) d_law_700 ?_
  refine lv_aload_n hx hb d_law_701 rfl (lv_at hl 0 rfl) ?_
  refine lv_iload_n hx hb d_law_702 rfl (lv_at hl 3 rfl) ?_
  refine lv_iconst (v := 2) hx hb d_law_703 (by decide) ?_
  refine lv_iadd hx hb d_law_704 ?_
  refine va_sld hx hb hX hbl hbA G.2.2 (sc_in ex hi hL (k := 2) (by decide)) d_law_705 ?_
  refine hg2_cl (As := [.int (xs (x3 + (1 : Int32)).toNatClampNeg), .int (xs (x3 + (2 : Int32)).toNatClampNeg)]) (rest := [.long (f_L_mean_II S (xs (x3 + (1 : Int32)).toNatClampNeg) (xs (x3 + (2 : Int32)).toNatClampNeg))]) (wa := mW bd cJ cI M) (wb := cW ad cJ cI S) ⟨hx, hb, hml, hown, hts⟩ (c_M_mean_II l dC dI bd cJ cI t0 t1 t2 M (xs (x3 + (1 : Int32)).toNatClampNeg) (xs (x3 + (2 : Int32)).toNatClampNeg) _) (gq_callV (k := 2) (fun w h => gt h) hts tw_696 tw_697 tw_698 tw_4 tw_699 (by decide +kernel) rfl rfl ⟨Nat.le_of_ble_eq_true rfl, Nat.le_of_ble_eq_true rfl⟩) hK G hA (hx_M hRT (hg_fst G) hA) 3 0 rfl rfl rfl hl.1 rfl (Nat.le_of_ble_eq_true rfl) ⟨Nat.le_of_ble_eq_true rfl, Nat.le_of_ble_eq_true rfl⟩ d_law_706 (fun H locs G => ?_)
  refine W.lcmp hx hb d_law_709 ?_
  refine lv_if_eq (tgt := 796) hx hb d_law_710 (by decide) (fun _ => ?_) (fun c9 => absurd ((lg_cmp_eq _ _).mpr (Z_mean hR (xs (x3 + (1 : Int32)).toNatClampNeg) (xs (x3 + (2 : Int32)).toNatClampNeg))) c9)
  exact kk _ _ _ _ _ hR G hl
set_option maxHeartbeats 4000000 in
set_option maxRecDepth 100000 in
theorem law_c14 {p : Program} {l : Launch} {e : Env} {s : State} {m : MethodId} {below : List Frame} {meth : Method} {c : Code} {dC : Nat → ClassId} {dI : Nat → Nat → Nat} {b L : Nat} {xs : Nat → Int32} {ad bd : Nat → Nat} {cJ cI : ClassId} {t0 t1 t2 : Nat} (hL : L ≤ 3072) (C0 : lw_At p s m meth c b L xs) (hRT : RTA t0 t1 t2 (lwB s) s s.heap) (hK : va_K (dC, dI) classes (tysJI cJ cI) s) {i : Nat} {x3 : Int32} (ex : x3 = nI i) (hi : i + 6 ≤ L) {S : CS} {M : MS} (hR : Rel 0 S M) {H : Heap} {locs : List Loc} (G : lwG dC dI ad bd cJ cI s S M H locs) {ls : Array Slot} (hl : lwL ls b ad bd x3)
    (kk : ∀ (S1 : CS) (M1 : MS) (H1 : Heap) (locs1 : List Loc) (ls1 : Array Slot), Rel 0 S1 M1 → lwG dC dI ad bd cJ cI s S1 M1 H1 locs1 → lwL ls1 b ad bd x3 → W p l e room_1 s m #[Value.ref b] below meth c H1 locs1 23 279 (lw_Z below #[Value.ref b] s) (F0 m 796 ls1 [])) : W p l e room_1 s m #[Value.ref b] below meth c H locs 23 279 (lw_Z below #[Value.ref b] s) (F0 m 715 ls []) := by
  obtain ⟨hx, hb, hr, hml, hown, hts, hX, hbl, hlocks, hgv⟩ := C0
  have hA : ∀ q : Nat, s.heap.size ≤ q → lwB s q := fun _ h => h
  have hbA : ¬ lwB s b := Nat.not_le.mpr hbl
  refine lv_aload_n hx hb d_law_715 rfl (lv_at hl 1 rfl) ?_
  refine lv_aload_n hx hb d_law_716 rfl (lv_at hl 0 rfl) ?_
  refine lv_iload_n hx hb d_law_717 rfl (lv_at hl 3 rfl) ?_
  refine lv_iconst (v := 1) hx hb d_law_718 (by decide) ?_
  refine lv_iadd hx hb d_law_719 ?_
  refine va_sld hx hb hX hbl hbA G.2.2 (sc_in ex hi hL (k := 1) (by decide)) d_law_720 ?_
  refine hg2_cl (As := [.int (xs (x3 + (1 : Int32)).toNatClampNeg)]) (rest := []) (wa := cW ad cJ cI S) (wb := mW bd cJ cI M) ⟨hx, hb, hml, hown, hts⟩ (c_L_horner_I l dC dI ad cJ cI S (xs (x3 + (1 : Int32)).toNatClampNeg) _) (gq_callV (k := 1) (fun w h => gt h) hts tw_395 tw_396 tw_397 tw_1 tw_398 (by decide +kernel) rfl rfl ⟨Nat.le_of_ble_eq_true rfl, Nat.le_of_ble_eq_true rfl⟩) hK G hA (hx_T _ _) 0 0 rfl rfl rfl hl.1 rfl (Nat.le_of_ble_eq_true rfl) ⟨Nat.le_of_ble_eq_true rfl, Nat.le_of_ble_eq_true rfl⟩ d_law_721 (fun H locs G => ?_)
  refine lv_aload_n hx hb d_law_724 rfl (lv_at hl 2 rfl) ?_
  refine lv_aload_n hx hb d_law_725 rfl (lv_at hl 0 rfl) ?_
  refine lv_iload_n hx hb d_law_726 rfl (lv_at hl 3 rfl) ?_
  refine lv_iconst (v := 1) hx hb d_law_727 (by decide) ?_
  refine lv_iadd hx hb d_law_728 ?_
  refine va_sld hx hb hX hbl hbA G.2.2 (sc_in ex hi hL (k := 1) (by decide)) d_law_729 ?_
  refine hg2_cl (As := [.int (xs (x3 + (1 : Int32)).toNatClampNeg)]) (rest := [.long (f_L_horner_I S (xs (x3 + (1 : Int32)).toNatClampNeg))]) (wa := mW bd cJ cI M) (wb := cW ad cJ cI S) ⟨hx, hb, hml, hown, hts⟩ (c_M_horner_I l dC dI bd cJ cI t0 t1 t2 M (xs (x3 + (1 : Int32)).toNatClampNeg) _) (gq_callV (k := 1) (fun w h => gt h) hts tw_701 tw_702 tw_703 tw_4 tw_704 (by decide +kernel) rfl rfl ⟨Nat.le_of_ble_eq_true rfl, Nat.le_of_ble_eq_true rfl⟩) hK G hA (hx_M hRT (hg_fst G) hA) 3 0 rfl rfl rfl hl.1 rfl (Nat.le_of_ble_eq_true rfl) ⟨Nat.le_of_ble_eq_true rfl, Nat.le_of_ble_eq_true rfl⟩ d_law_730 (fun H locs G => ?_)
  refine W.lcmp hx hb d_law_733 ?_
  refine lv_if_eq (tgt := 796) hx hb d_law_734 (by decide) (fun _ => ?_) (fun c9 => absurd ((lg_cmp_eq _ _).mpr (Z_horner hR (xs (x3 + (1 : Int32)).toNatClampNeg))) c9)
  exact kk _ _ _ _ _ hR G hl
set_option maxHeartbeats 4000000 in
set_option maxRecDepth 100000 in
theorem law_c15 {p : Program} {l : Launch} {e : Env} {s : State} {m : MethodId} {below : List Frame} {meth : Method} {c : Code} {dC : Nat → ClassId} {dI : Nat → Nat → Nat} {b L : Nat} {xs : Nat → Int32} {ad bd : Nat → Nat} {cJ cI : ClassId} {t0 t1 t2 : Nat} (hL : L ≤ 3072) (C0 : lw_At p s m meth c b L xs) (hRT : RTA t0 t1 t2 (lwB s) s s.heap) (hK : va_K (dC, dI) classes (tysJI cJ cI) s) {i : Nat} {x3 : Int32} (ex : x3 = nI i) (hi : i + 6 ≤ L) {S : CS} {M : MS} (hR : Rel 0 S M) {H : Heap} {locs : List Loc} (G : lwG dC dI ad bd cJ cI s S M H locs) {ls : Array Slot} (hl : lwL ls b ad bd x3)
    (kk : ∀ (S1 : CS) (M1 : MS) (H1 : Heap) (locs1 : List Loc) (ls1 : Array Slot), Rel 0 S1 M1 → lwG dC dI ad bd cJ cI s S1 M1 H1 locs1 → lwL ls1 b ad bd x3 → W p l e room_1 s m #[Value.ref b] below meth c H1 locs1 23 279 (lw_Z below #[Value.ref b] s) (F0 m 796 ls1 [])) : W p l e room_1 s m #[Value.ref b] below meth c H locs 23 279 (lw_Z below #[Value.ref b] s) (F0 m 739 ls []) := by
  obtain ⟨hx, hb, hr, hml, hown, hts, hX, hbl, hlocks, hgv⟩ := C0
  have hA : ∀ q : Nat, s.heap.size ≤ q → lwB s q := fun _ h => h
  have hbA : ¬ lwB s b := Nat.not_le.mpr hbl
  refine lv_aload_n hx hb d_law_739 rfl (lv_at hl 1 rfl) ?_
  refine lv_aload_n hx hb d_law_740 rfl (lv_at hl 0 rfl) ?_
  refine lv_iload_n hx hb d_law_741 rfl (lv_at hl 3 rfl) ?_
  refine lv_iconst (v := 1) hx hb d_law_742 (by decide) ?_
  refine lv_iadd hx hb d_law_743 ?_
  refine va_sld hx hb hX hbl hbA G.2.2 (sc_in ex hi hL (k := 1) (by decide)) d_law_744 ?_
  refine hg2_ci (As := [.int (xs (x3 + (1 : Int32)).toNatClampNeg)]) (rest := []) (wa := cW ad cJ cI S) (wb := mW bd cJ cI M) ⟨hx, hb, hml, hown, hts⟩ (c_L_single_I l dC dI ad cJ cI S (xs (x3 + (1 : Int32)).toNatClampNeg) _) (gq_callV (k := 1) (fun w h => gt h) hts tw_399 tw_400 tw_401 tw_1 tw_402 (by decide +kernel) rfl rfl ⟨Nat.le_of_ble_eq_true rfl, Nat.le_of_ble_eq_true rfl⟩) hK G hA (hx_T _ _) 0 0 rfl rfl rfl hl.1 rfl (Nat.le_of_ble_eq_true rfl) ⟨Nat.le_of_ble_eq_true rfl, Nat.le_of_ble_eq_true rfl⟩ d_law_745 (fun H locs G => ?_)
  refine lv_aload_n hx hb d_law_748 rfl (lv_at hl 2 rfl) ?_
  refine lv_aload_n hx hb d_law_749 rfl (lv_at hl 0 rfl) ?_
  refine lv_iload_n hx hb d_law_750 rfl (lv_at hl 3 rfl) ?_
  refine lv_iconst (v := 1) hx hb d_law_751 (by decide) ?_
  refine lv_iadd hx hb d_law_752 ?_
  refine va_sld hx hb hX hbl hbA G.2.2 (sc_in ex hi hL (k := 1) (by decide)) d_law_753 ?_
  refine hg2_ci (As := [.int (xs (x3 + (1 : Int32)).toNatClampNeg)]) (rest := [.int (f_L_single_I S (xs (x3 + (1 : Int32)).toNatClampNeg))]) (wa := mW bd cJ cI M) (wb := cW ad cJ cI S) ⟨hx, hb, hml, hown, hts⟩ (c_M_single_I l dC dI bd cJ cI t0 t1 t2 M (xs (x3 + (1 : Int32)).toNatClampNeg) _) (gq_callV (k := 1) (fun w h => gt h) hts tw_705 tw_706 tw_707 tw_4 tw_708 (by decide +kernel) rfl rfl ⟨Nat.le_of_ble_eq_true rfl, Nat.le_of_ble_eq_true rfl⟩) hK G hA (hx_M hRT (hg_fst G) hA) 3 0 rfl rfl rfl hl.1 rfl (Nat.le_of_ble_eq_true rfl) ⟨Nat.le_of_ble_eq_true rfl, Nat.le_of_ble_eq_true rfl⟩ d_law_754 (fun H locs G => ?_)
  refine lv_icmp_eq (tgt := 796) hx hb d_law_757 (by decide) (fun _ => ?_) (fun c9 => absurd (Z_single hR (xs (x3 + (1 : Int32)).toNatClampNeg)) c9)
  exact kk _ _ _ _ _ hR G hl
set_option maxHeartbeats 4000000 in
set_option maxRecDepth 100000 in
theorem law_c16 {p : Program} {l : Launch} {e : Env} {s : State} {m : MethodId} {below : List Frame} {meth : Method} {c : Code} {dC : Nat → ClassId} {dI : Nat → Nat → Nat} {b L : Nat} {xs : Nat → Int32} {ad bd : Nat → Nat} {cJ cI : ClassId} {t0 t1 t2 : Nat} (hL : L ≤ 3072) (C0 : lw_At p s m meth c b L xs) (hRT : RTA t0 t1 t2 (lwB s) s s.heap) (hK : va_K (dC, dI) classes (tysJI cJ cI) s) {i : Nat} {x3 : Int32} (ex : x3 = nI i) (hi : i + 6 ≤ L) {S : CS} {M : MS} (hR : Rel 0 S M) {H : Heap} {locs : List Loc} (G : lwG dC dI ad bd cJ cI s S M H locs) {ls : Array Slot} (hl : lwL ls b ad bd x3)
    (kk : ∀ (S1 : CS) (M1 : MS) (H1 : Heap) (locs1 : List Loc) (ls1 : Array Slot), Rel 0 S1 M1 → lwG dC dI ad bd cJ cI s S1 M1 H1 locs1 → lwL ls1 b ad bd x3 → W p l e room_1 s m #[Value.ref b] below meth c H1 locs1 23 279 (lw_Z below #[Value.ref b] s) (F0 m 796 ls1 [])) : W p l e room_1 s m #[Value.ref b] below meth c H locs 23 279 (lw_Z below #[Value.ref b] s) (F0 m 762 ls []) := by
  obtain ⟨hx, hb, hr, hml, hown, hts, hX, hbl, hlocks, hgv⟩ := C0
  have hA : ∀ q : Nat, s.heap.size ≤ q → lwB s q := fun _ h => h
  have hbA : ¬ lwB s b := Nat.not_le.mpr hbl
  refine lv_aload_n hx hb d_law_762 rfl (lv_at hl 1 rfl) ?_
  refine lv_aload_n hx hb d_law_763 rfl (lv_at hl 0 rfl) ?_
  refine lv_iload_n hx hb d_law_764 rfl (lv_at hl 3 rfl) ?_
  refine lv_iconst (v := 1) hx hb d_law_765 (by decide) ?_
  refine lv_iadd hx hb d_law_766 ?_
  refine va_sld hx hb hX hbl hbA G.2.2 (sc_in ex hi hL (k := 1) (by decide)) d_law_767 ?_
  refine lv_aload_n hx hb d_law_768 rfl (lv_at hl 0 rfl) ?_
  refine lv_iload_n hx hb d_law_769 rfl (lv_at hl 3 rfl) ?_
  refine lv_iconst (v := 2) hx hb d_law_770 (by decide) ?_
  refine lv_iadd hx hb d_law_771 ?_
  refine va_sld hx hb hX hbl hbA G.2.2 (sc_in ex hi hL (k := 2) (by decide)) d_law_772 ?_
  refine hg2_cl (As := [.int (xs (x3 + (1 : Int32)).toNatClampNeg), .int (xs (x3 + (2 : Int32)).toNatClampNeg)]) (rest := []) (wa := cW ad cJ cI S) (wb := mW bd cJ cI M) ⟨hx, hb, hml, hown, hts⟩ (c_L_fromSingle_II l dC dI ad cJ cI S (xs (x3 + (1 : Int32)).toNatClampNeg) (xs (x3 + (2 : Int32)).toNatClampNeg) _) (gq_callV (k := 2) (fun w h => gt h) hts tw_408 tw_409 tw_410 tw_1 tw_411 (by decide +kernel) rfl rfl ⟨Nat.le_of_ble_eq_true rfl, Nat.le_of_ble_eq_true rfl⟩) hK G hA (hx_T _ _) 0 0 rfl rfl rfl hl.1 rfl (Nat.le_of_ble_eq_true rfl) ⟨Nat.le_of_ble_eq_true rfl, Nat.le_of_ble_eq_true rfl⟩ d_law_773 (fun H locs G => ?_)
  refine lv_aload_n hx hb d_law_776 rfl (lv_at hl 2 rfl) ?_
  refine lv_aload_n hx hb d_law_777 rfl (lv_at hl 0 rfl) ?_
  refine lv_iload_n hx hb d_law_778 rfl (lv_at hl 3 rfl) ?_
  refine lv_iconst (v := 1) hx hb d_law_779 (by decide) ?_
  refine lv_iadd hx hb d_law_780 ?_
  refine va_sld hx hb hX hbl hbA G.2.2 (sc_in ex hi hL (k := 1) (by decide)) d_law_781 ?_
  refine lv_aload_n hx hb d_law_782 rfl (lv_at hl 0 rfl) ?_
  refine lv_iload_n hx hb d_law_783 rfl (lv_at hl 3 rfl) ?_
  refine lv_iconst (v := 2) hx hb d_law_784 (by decide) ?_
  refine lv_iadd hx hb d_law_785 ?_
  refine va_sld hx hb hX hbl hbA G.2.2 (sc_in ex hi hL (k := 2) (by decide)) d_law_786 ?_
  refine hg2_cl (As := [.int (xs (x3 + (1 : Int32)).toNatClampNeg), .int (xs (x3 + (2 : Int32)).toNatClampNeg)]) (rest := [.long ((f_L_fromSingle_II S (xs (x3 + (1 : Int32)).toNatClampNeg) (xs (x3 + (2 : Int32)).toNatClampNeg)).1)]) (wa := mW bd cJ cI M) (wb := cW ad cJ cI ((f_L_fromSingle_II S (xs (x3 + (1 : Int32)).toNatClampNeg) (xs (x3 + (2 : Int32)).toNatClampNeg)).2)) ⟨hx, hb, hml, hown, hts⟩ (c_M_fromSingle_II l dC dI bd cJ cI t0 t1 t2 M (xs (x3 + (1 : Int32)).toNatClampNeg) (xs (x3 + (2 : Int32)).toNatClampNeg) _) (gq_callV (k := 2) (fun w h => gt h) hts tw_709 tw_710 tw_711 tw_4 tw_712 (by decide +kernel) rfl rfl ⟨Nat.le_of_ble_eq_true rfl, Nat.le_of_ble_eq_true rfl⟩) hK G hA (hx_M hRT (hg_fst G) hA) 3 0 rfl rfl rfl hl.1 rfl (Nat.le_of_ble_eq_true rfl) ⟨Nat.le_of_ble_eq_true rfl, Nat.le_of_ble_eq_true rfl⟩ d_law_787 (fun H locs G => ?_)
  refine W.lcmp hx hb d_law_790 ?_
  refine lv_if_eq (tgt := 796) hx hb d_law_791 (by decide) (fun _ => ?_) (fun c9 => absurd ((lg_cmp_eq _ _).mpr (Z_from hR (xs (x3 + (1 : Int32)).toNatClampNeg) (xs (x3 + (2 : Int32)).toNatClampNeg)).1) c9)
  exact kk _ _ _ _ _ (Z_from hR (xs (x3 + (1 : Int32)).toNatClampNeg) (xs (x3 + (2 : Int32)).toNatClampNeg)).2 G hl
