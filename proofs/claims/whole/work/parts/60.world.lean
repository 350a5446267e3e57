theorem tw_2 : (Jvm.Cond.initialized "MotionLab$Plane") ∈ lw_g := List.mem_filter.mpr ⟨List.mem_append_right _ (List.mem_of_getElem? (i := 2) (by decide +kernel)), by decide +kernel⟩
theorem tw_3 : (Jvm.Cond.initialized "MotionLab$Springs") ∈ lw_g := List.mem_filter.mpr ⟨List.mem_append_right _ (List.mem_of_getElem? (i := 3) (by decide +kernel)), by decide +kernel⟩
theorem tw_29 : (Jvm.Cond.fieldLink "MotionLab$Springs" (9 : Nat) "MotionLab$Springs" "bodies" "[I") ∈ lw_g := List.mem_filter.mpr ⟨List.mem_append_right _ (List.mem_of_getElem? (i := 29) (by decide +kernel)), by decide +kernel⟩
theorem tw_30 : (Jvm.Cond.fieldLink "MotionLab$Springs" (13 : Nat) "MotionLab$Springs" "numbers" "[J") ∈ lw_g := List.mem_filter.mpr ⟨List.mem_append_right _ (List.mem_of_getElem? (i := 30) (by decide +kernel)), by decide +kernel⟩
theorem tw_31 : (Jvm.Cond.fieldLink "MotionLab$Springs" (17 : Nat) "MotionLab$Springs" "count" "I") ∈ lw_g := List.mem_filter.mpr ⟨List.mem_append_right _ (List.mem_of_getElem? (i := 31) (by decide +kernel)), by decide +kernel⟩
theorem tw_32 : (Jvm.Cond.fieldLink "MotionLab" (58 : Nat) "MotionLab$Springs" "count" "I") ∈ lw_g := List.mem_filter.mpr ⟨List.mem_append_right _ (List.mem_of_getElem? (i := 32) (by decide +kernel)), by decide +kernel⟩
theorem tw_33 : (Jvm.Cond.fieldLink "MotionLab$Plane" (42 : Nat) "MotionLab$Springs" "count" "I") ∈ lw_g := List.mem_filter.mpr ⟨List.mem_append_right _ (List.mem_of_getElem? (i := 33) (by decide +kernel)), by decide +kernel⟩
theorem tw_46 : (Jvm.Cond.fieldLink "MotionLab$Plane" (9 : Nat) "MotionLab$Plane" "rows" "[J") ∈ lw_g := List.mem_filter.mpr ⟨List.mem_append_right _ (List.mem_of_getElem? (i := 46) (by decide +kernel)), by decide +kernel⟩
theorem tw_47 : (Jvm.Cond.fieldLink "MotionLab$Plane" (13 : Nat) "MotionLab$Plane" "field" "[J") ∈ lw_g := List.mem_filter.mpr ⟨List.mem_append_right _ (List.mem_of_getElem? (i := 47) (by decide +kernel)), by decide +kernel⟩
theorem tw_48 : (Jvm.Cond.fieldLink "MotionLab$Plane" (19 : Nat) "MotionLab$Plane" "springs" "LMotionLab$Springs;") ∈ lw_g := List.mem_filter.mpr ⟨List.mem_append_right _ (List.mem_of_getElem? (i := 48) (by decide +kernel)), by decide +kernel⟩
theorem tw_49 : (Jvm.Cond.fieldLink "MotionLab" (38 : Nat) "MotionLab$Plane" "springs" "LMotionLab$Springs;") ∈ lw_g := List.mem_filter.mpr ⟨List.mem_append_right _ (List.mem_of_getElem? (i := 49) (by decide +kernel)), by decide +kernel⟩
theorem tw_57 : (Jvm.Cond.fieldLink "MotionLab" (10 : Nat) "MotionLab" "plane" "LMotionLab$Plane;") ∈ lw_g := List.mem_filter.mpr ⟨List.mem_append_right _ (List.mem_of_getElem? (i := 57) (by decide +kernel)), by decide +kernel⟩
theorem tw_58 : (Jvm.Cond.fieldLink "MotionLab" (16 : Nat) "MotionLab" "stores" "[J") ∈ lw_g := List.mem_filter.mpr ⟨List.mem_append_right _ (List.mem_of_getElem? (i := 58) (by decide +kernel)), by decide +kernel⟩
theorem tw_68 : (Jvm.Cond.methodLink "MotionLab" (20 : Nat) ({ cls := "MotionLab$Plane", name := "isBody", desc := "(I)Z" } : Jvm.MethodName)) ∈ lw_g := List.mem_filter.mpr ⟨List.mem_append_right _ (List.mem_of_getElem? (i := 68) (by decide +kernel)), by decide +kernel⟩
theorem tw_69 : (Jvm.Cond.static ({ cls := "MotionLab$Plane", name := "isBody", desc := "(I)Z" } : Jvm.MethodName)) ∈ lw_g := List.mem_filter.mpr ⟨List.mem_append_right _ (List.mem_of_getElem? (i := 69) (by decide +kernel)), by decide +kernel⟩
theorem tw_70 : (Jvm.Cond.code ({ cls := "MotionLab$Plane", name := "isBody", desc := "(I)Z" } : Jvm.MethodName) prog_3_method_2_code (1 : Nat) (Option.some Jvm.ClassFile.FieldType.boolean)) ∈ lw_g := List.mem_filter.mpr ⟨List.mem_append_right _ (List.mem_of_getElem? (i := 70) (by decide +kernel)), by decide +kernel⟩
theorem tw_71 : (Jvm.Cond.methodLink "MotionLab" (24 : Nat) ({ cls := "MotionLab$Plane", name := "isBodyNumber", desc := "(I)Z" } : Jvm.MethodName)) ∈ lw_g := List.mem_filter.mpr ⟨List.mem_append_right _ (List.mem_of_getElem? (i := 71) (by decide +kernel)), by decide +kernel⟩
theorem tw_72 : (Jvm.Cond.static ({ cls := "MotionLab$Plane", name := "isBodyNumber", desc := "(I)Z" } : Jvm.MethodName)) ∈ lw_g := List.mem_filter.mpr ⟨List.mem_append_right _ (List.mem_of_getElem? (i := 72) (by decide +kernel)), by decide +kernel⟩
theorem tw_73 : (Jvm.Cond.code ({ cls := "MotionLab$Plane", name := "isBodyNumber", desc := "(I)Z" } : Jvm.MethodName) prog_3_method_3_code (1 : Nat) (Option.some Jvm.ClassFile.FieldType.boolean)) ∈ lw_g := List.mem_filter.mpr ⟨List.mem_append_right _ (List.mem_of_getElem? (i := 73) (by decide +kernel)), by decide +kernel⟩
theorem tw_74 : (Jvm.Cond.methodLink "MotionLab" (27 : Nat) ({ cls := "MotionLab$Plane", name := "setBodyNumber", desc := "(IIJ)V" } : Jvm.MethodName)) ∈ lw_g := List.mem_filter.mpr ⟨List.mem_append_right _ (List.mem_of_getElem? (i := 74) (by decide +kernel)), by decide +kernel⟩
theorem tw_75 : (Jvm.Cond.instanceMethod ({ cls := "MotionLab$Plane", name := "setBodyNumber", desc := "(IIJ)V" } : Jvm.MethodName)) ∈ lw_g := List.mem_filter.mpr ⟨List.mem_append_right _ (List.mem_of_getElem? (i := 75) (by decide +kernel)), by decide +kernel⟩
theorem tw_76 : (Jvm.Cond.selects "MotionLab$Plane" ({ cls := "MotionLab$Plane", name := "setBodyNumber", desc := "(IIJ)V" } : Jvm.MethodName) ({ cls := "MotionLab$Plane", name := "setBodyNumber", desc := "(IIJ)V" } : Jvm.MethodName)) ∈ lw_g := List.mem_filter.mpr ⟨List.mem_append_right _ (List.mem_of_getElem? (i := 76) (by decide +kernel)), by decide +kernel⟩
theorem tw_77 : (Jvm.Cond.code ({ cls := "MotionLab$Plane", name := "setBodyNumber", desc := "(IIJ)V" } : Jvm.MethodName) prog_3_method_5_code (7 : Nat) (Option.none : Option Jvm.ClassFile.FieldType)) ∈ lw_g := List.mem_filter.mpr ⟨List.mem_append_right _ (List.mem_of_getElem? (i := 77) (by decide +kernel)), by decide +kernel⟩
theorem tw_78 : (Jvm.Cond.methodLink "MotionLab$Plane" (31 : Nat) ({ cls := "MotionLab$Ieee", name := "toFloat", desc := "(J)J" } : Jvm.MethodName)) ∈ lw_g := List.mem_filter.mpr ⟨List.mem_append_right _ (List.mem_of_getElem? (i := 78) (by decide +kernel)), by decide +kernel⟩
theorem tw_122 : (Jvm.Cond.methodLink "MotionLab$Plane" (35 : Nat) ({ cls := "MotionLab$Ieee", name := "told", desc := "(J)J" } : Jvm.MethodName)) ∈ lw_g := List.mem_filter.mpr ⟨List.mem_append_right _ (List.mem_of_getElem? (i := 122) (by decide +kernel)), by decide +kernel⟩
theorem tw_127 : (Jvm.Cond.methodLink "MotionLab" (31 : Nat) ({ cls := "MotionLab$Plane", name := "isFieldNumber", desc := "(I)Z" } : Jvm.MethodName)) ∈ lw_g := List.mem_filter.mpr ⟨List.mem_append_right _ (List.mem_of_getElem? (i := 127) (by decide +kernel)), by decide +kernel⟩
theorem tw_128 : (Jvm.Cond.static ({ cls := "MotionLab$Plane", name := "isFieldNumber", desc := "(I)Z" } : Jvm.MethodName)) ∈ lw_g := List.mem_filter.mpr ⟨List.mem_append_right _ (List.mem_of_getElem? (i := 128) (by decide +kernel)), by decide +kernel⟩
theorem tw_129 : (Jvm.Cond.code ({ cls := "MotionLab$Plane", name := "isFieldNumber", desc := "(I)Z" } : Jvm.MethodName) prog_3_method_4_code (1 : Nat) (Option.some Jvm.ClassFile.FieldType.boolean)) ∈ lw_g := List.mem_filter.mpr ⟨List.mem_append_right _ (List.mem_of_getElem? (i := 129) (by decide +kernel)), by decide +kernel⟩
theorem tw_130 : (Jvm.Cond.methodLink "MotionLab" (34 : Nat) ({ cls := "MotionLab$Plane", name := "setFieldNumber", desc := "(IJ)V" } : Jvm.MethodName)) ∈ lw_g := List.mem_filter.mpr ⟨List.mem_append_right _ (List.mem_of_getElem? (i := 130) (by decide +kernel)), by decide +kernel⟩
theorem tw_131 : (Jvm.Cond.instanceMethod ({ cls := "MotionLab$Plane", name := "setFieldNumber", desc := "(IJ)V" } : Jvm.MethodName)) ∈ lw_g := List.mem_filter.mpr ⟨List.mem_append_right _ (List.mem_of_getElem? (i := 131) (by decide +kernel)), by decide +kernel⟩
theorem tw_132 : (Jvm.Cond.selects "MotionLab$Plane" ({ cls := "MotionLab$Plane", name := "setFieldNumber", desc := "(IJ)V" } : Jvm.MethodName) ({ cls := "MotionLab$Plane", name := "setFieldNumber", desc := "(IJ)V" } : Jvm.MethodName)) ∈ lw_g := List.mem_filter.mpr ⟨List.mem_append_right _ (List.mem_of_getElem? (i := 132) (by decide +kernel)), by decide +kernel⟩
theorem tw_133 : (Jvm.Cond.code ({ cls := "MotionLab$Plane", name := "setFieldNumber", desc := "(IJ)V" } : Jvm.MethodName) prog_3_method_6_code (5 : Nat) (Option.none : Option Jvm.ClassFile.FieldType)) ∈ lw_g := List.mem_filter.mpr ⟨List.mem_append_right _ (List.mem_of_getElem? (i := 133) (by decide +kernel)), by decide +kernel⟩
theorem tw_138 : (Jvm.Cond.methodLink "MotionLab" (42 : Nat) ({ cls := "MotionLab$Springs", name := "isFull", desc := "()Z" } : Jvm.MethodName)) ∈ lw_g := List.mem_filter.mpr ⟨List.mem_append_right _ (List.mem_of_getElem? (i := 138) (by decide +kernel)), by decide +kernel⟩
theorem tw_139 : (Jvm.Cond.instanceMethod ({ cls := "MotionLab$Springs", name := "isFull", desc := "()Z" } : Jvm.MethodName)) ∈ lw_g := List.mem_filter.mpr ⟨List.mem_append_right _ (List.mem_of_getElem? (i := 139) (by decide +kernel)), by decide +kernel⟩
theorem tw_140 : (Jvm.Cond.selects "MotionLab$Springs" ({ cls := "MotionLab$Springs", name := "isFull", desc := "()Z" } : Jvm.MethodName) ({ cls := "MotionLab$Springs", name := "isFull", desc := "()Z" } : Jvm.MethodName)) ∈ lw_g := List.mem_filter.mpr ⟨List.mem_append_right _ (List.mem_of_getElem? (i := 140) (by decide +kernel)), by decide +kernel⟩
theorem tw_141 : (Jvm.Cond.code ({ cls := "MotionLab$Springs", name := "isFull", desc := "()Z" } : Jvm.MethodName) prog_4_method_2_code (1 : Nat) (Option.some Jvm.ClassFile.FieldType.boolean)) ∈ lw_g := List.mem_filter.mpr ⟨List.mem_append_right _ (List.mem_of_getElem? (i := 141) (by decide +kernel)), by decide +kernel⟩
theorem tw_142 : (Jvm.Cond.methodLink "MotionLab" (48 : Nat) ({ cls := "MotionLab$Ieee", name := "ofFloatBits", desc := "(I)J" } : Jvm.MethodName)) ∈ lw_g := List.mem_filter.mpr ⟨List.mem_append_right _ (List.mem_of_getElem? (i := 142) (by decide +kernel)), by decide +kernel⟩
theorem tw_143 : (Jvm.Cond.static ({ cls := "MotionLab$Ieee", name := "ofFloatBits", desc := "(I)J" } : Jvm.MethodName)) ∈ lw_g := List.mem_filter.mpr ⟨List.mem_append_right _ (List.mem_of_getElem? (i := 143) (by decide +kernel)), by decide +kernel⟩
theorem tw_144 : (Jvm.Cond.code ({ cls := "MotionLab$Ieee", name := "ofFloatBits", desc := "(I)J" } : Jvm.MethodName) prog_2_method_24_code (6 : Nat) (Option.some Jvm.ClassFile.FieldType.long)) ∈ lw_g := List.mem_filter.mpr ⟨List.mem_append_right _ (List.mem_of_getElem? (i := 144) (by decide +kernel)), by decide +kernel⟩
theorem tw_150 : (Jvm.Cond.methodLink "MotionLab" (54 : Nat) ({ cls := "MotionLab$Springs", name := "add", desc := "(IIJJJ)I" } : Jvm.MethodName)) ∈ lw_g := List.mem_filter.mpr ⟨List.mem_append_right _ (List.mem_of_getElem? (i := 150) (by decide +kernel)), by decide +kernel⟩
theorem tw_151 : (Jvm.Cond.instanceMethod ({ cls := "MotionLab$Springs", name := "add", desc := "(IIJJJ)I" } : Jvm.MethodName)) ∈ lw_g := List.mem_filter.mpr ⟨List.mem_append_right _ (List.mem_of_getElem? (i := 151) (by decide +kernel)), by decide +kernel⟩
theorem tw_152 : (Jvm.Cond.selects "MotionLab$Springs" ({ cls := "MotionLab$Springs", name := "add", desc := "(IIJJJ)I" } : Jvm.MethodName) ({ cls := "MotionLab$Springs", name := "add", desc := "(IIJJJ)I" } : Jvm.MethodName)) ∈ lw_g := List.mem_filter.mpr ⟨List.mem_append_right _ (List.mem_of_getElem? (i := 152) (by decide +kernel)), by decide +kernel⟩
theorem tw_153 : (Jvm.Cond.code ({ cls := "MotionLab$Springs", name := "add", desc := "(IIJJJ)I" } : Jvm.MethodName) prog_4_method_3_code (9 : Nat) (Option.some Jvm.ClassFile.FieldType.int)) ∈ lw_g := List.mem_filter.mpr ⟨List.mem_append_right _ (List.mem_of_getElem? (i := 153) (by decide +kernel)), by decide +kernel⟩
theorem tw_158 : (Jvm.Cond.methodLink "MotionLab" (62 : Nat) ({ cls := "MotionLab$Springs", name := "removeLatest", desc := "()I" } : Jvm.MethodName)) ∈ lw_g := List.mem_filter.mpr ⟨List.mem_append_right _ (List.mem_of_getElem? (i := 158) (by decide +kernel)), by decide +kernel⟩
theorem tw_159 : (Jvm.Cond.instanceMethod ({ cls := "MotionLab$Springs", name := "removeLatest", desc := "()I" } : Jvm.MethodName)) ∈ lw_g := List.mem_filter.mpr ⟨List.mem_append_right _ (List.mem_of_getElem? (i := 159) (by decide +kernel)), by decide +kernel⟩
theorem tw_160 : (Jvm.Cond.selects "MotionLab$Springs" ({ cls := "MotionLab$Springs", name := "removeLatest", desc := "()I" } : Jvm.MethodName) ({ cls := "MotionLab$Springs", name := "removeLatest", desc := "()I" } : Jvm.MethodName)) ∈ lw_g := List.mem_filter.mpr ⟨List.mem_append_right _ (List.mem_of_getElem? (i := 160) (by decide +kernel)), by decide +kernel⟩
theorem tw_161 : (Jvm.Cond.code ({ cls := "MotionLab$Springs", name := "removeLatest", desc := "()I" } : Jvm.MethodName) prog_4_method_4_code (1 : Nat) (Option.some Jvm.ClassFile.FieldType.int)) ∈ lw_g := List.mem_filter.mpr ⟨List.mem_append_right _ (List.mem_of_getElem? (i := 161) (by decide +kernel)), by decide +kernel⟩
theorem tw_166 : (Jvm.Cond.methodLink "MotionLab" (66 : Nat) ({ cls := "MotionLab$Plane", name := "advance", desc := "()V" } : Jvm.MethodName)) ∈ lw_g := List.mem_filter.mpr ⟨List.mem_append_right _ (List.mem_of_getElem? (i := 166) (by decide +kernel)), by decide +kernel⟩
theorem tw_167 : (Jvm.Cond.instanceMethod ({ cls := "MotionLab$Plane", name := "advance", desc := "()V" } : Jvm.MethodName)) ∈ lw_g := List.mem_filter.mpr ⟨List.mem_append_right _ (List.mem_of_getElem? (i := 167) (by decide +kernel)), by decide +kernel⟩
theorem tw_168 : (Jvm.Cond.selects "MotionLab$Plane" ({ cls := "MotionLab$Plane", name := "advance", desc := "()V" } : Jvm.MethodName) ({ cls := "MotionLab$Plane", name := "advance", desc := "()V" } : Jvm.MethodName)) ∈ lw_g := List.mem_filter.mpr ⟨List.mem_append_right _ (List.mem_of_getElem? (i := 168) (by decide +kernel)), by decide +kernel⟩
theorem tw_169 : (Jvm.Cond.code ({ cls := "MotionLab$Plane", name := "advance", desc := "()V" } : Jvm.MethodName) prog_3_method_9_code (3 : Nat) (Option.none : Option Jvm.ClassFile.FieldType)) ∈ lw_g := List.mem_filter.mpr ⟨List.mem_append_right _ (List.mem_of_getElem? (i := 169) (by decide +kernel)), by decide +kernel⟩
theorem tw_170 : (Jvm.Cond.methodLink "MotionLab$Plane" (38 : Nat) ({ cls := "MotionLab$Plane", name := "pullByField", desc := "(I)V" } : Jvm.MethodName)) ∈ lw_g := List.mem_filter.mpr ⟨List.mem_append_right _ (List.mem_of_getElem? (i := 170) (by decide +kernel)), by decide +kernel⟩
theorem tw_172 : (Jvm.Cond.instanceMethod ({ cls := "MotionLab$Plane", name := "pullByField", desc := "(I)V" } : Jvm.MethodName)) ∈ lw_g := List.mem_filter.mpr ⟨List.mem_append_right _ (List.mem_of_getElem? (i := 172) (by decide +kernel)), by decide +kernel⟩
theorem tw_173 : (Jvm.Cond.code ({ cls := "MotionLab$Plane", name := "pullByField", desc := "(I)V" } : Jvm.MethodName) prog_3_method_12_code (6 : Nat) (Option.none : Option Jvm.ClassFile.FieldType)) ∈ lw_g := List.mem_filter.mpr ⟨List.mem_append_right _ (List.mem_of_getElem? (i := 173) (by decide +kernel)), by decide +kernel⟩
theorem tw_174 : (Jvm.Cond.methodLink "MotionLab$Plane" (86 : Nat) ({ cls := "MotionLab$Ieee", name := "product", desc := "(JJ)J" } : Jvm.MethodName)) ∈ lw_g := List.mem_filter.mpr ⟨List.mem_append_right _ (List.mem_of_getElem? (i := 174) (by decide +kernel)), by decide +kernel⟩
theorem tw_188 : (Jvm.Cond.methodLink "MotionLab$Plane" (70 : Nat) ({ cls := "MotionLab$Ieee", name := "difference", desc := "(JJ)J" } : Jvm.MethodName)) ∈ lw_g := List.mem_filter.mpr ⟨List.mem_append_right _ (List.mem_of_getElem? (i := 188) (by decide +kernel)), by decide +kernel⟩
theorem tw_203 : (Jvm.Cond.methodLink "MotionLab$Plane" (46 : Nat) ({ cls := "MotionLab$Plane", name := "pullBySpring", desc := "(I)V" } : Jvm.MethodName)) ∈ lw_g := List.mem_filter.mpr ⟨List.mem_append_right _ (List.mem_of_getElem? (i := 203) (by decide +kernel)), by decide +kernel⟩
theorem tw_205 : (Jvm.Cond.instanceMethod ({ cls := "MotionLab$Plane", name := "pullBySpring", desc := "(I)V" } : Jvm.MethodName)) ∈ lw_g := List.mem_filter.mpr ⟨List.mem_append_right _ (List.mem_of_getElem? (i := 205) (by decide +kernel)), by decide +kernel⟩
theorem tw_206 : (Jvm.Cond.code ({ cls := "MotionLab$Plane", name := "pullBySpring", desc := "(I)V" } : Jvm.MethodName) prog_3_method_13_code (24 : Nat) (Option.none : Option Jvm.ClassFile.FieldType)) ∈ lw_g := List.mem_filter.mpr ⟨List.mem_append_right _ (List.mem_of_getElem? (i := 206) (by decide +kernel)), by decide +kernel⟩
theorem tw_207 : (Jvm.Cond.methodLink "MotionLab$Plane" (89 : Nat) ({ cls := "MotionLab$Springs", name := "firstBody", desc := "(I)I" } : Jvm.MethodName)) ∈ lw_g := List.mem_filter.mpr ⟨List.mem_append_right _ (List.mem_of_getElem? (i := 207) (by decide +kernel)), by decide +kernel⟩
theorem tw_208 : (Jvm.Cond.instanceMethod ({ cls := "MotionLab$Springs", name := "firstBody", desc := "(I)I" } : Jvm.MethodName)) ∈ lw_g := List.mem_filter.mpr ⟨List.mem_append_right _ (List.mem_of_getElem? (i := 208) (by decide +kernel)), by decide +kernel⟩
theorem tw_209 : (Jvm.Cond.selects "MotionLab$Springs" ({ cls := "MotionLab$Springs", name := "firstBody", desc := "(I)I" } : Jvm.MethodName) ({ cls := "MotionLab$Springs", name := "firstBody", desc := "(I)I" } : Jvm.MethodName)) ∈ lw_g := List.mem_filter.mpr ⟨List.mem_append_right _ (List.mem_of_getElem? (i := 209) (by decide +kernel)), by decide +kernel⟩
theorem tw_210 : (Jvm.Cond.code ({ cls := "MotionLab$Springs", name := "firstBody", desc := "(I)I" } : Jvm.MethodName) prog_4_method_5_code (2 : Nat) (Option.some Jvm.ClassFile.FieldType.int)) ∈ lw_g := List.mem_filter.mpr ⟨List.mem_append_right _ (List.mem_of_getElem? (i := 210) (by decide +kernel)), by decide +kernel⟩
theorem tw_211 : (Jvm.Cond.methodLink "MotionLab$Plane" (93 : Nat) ({ cls := "MotionLab$Springs", name := "secondBody", desc := "(I)I" } : Jvm.MethodName)) ∈ lw_g := List.mem_filter.mpr ⟨List.mem_append_right _ (List.mem_of_getElem? (i := 211) (by decide +kernel)), by decide +kernel⟩
theorem tw_212 : (Jvm.Cond.instanceMethod ({ cls := "MotionLab$Springs", name := "secondBody", desc := "(I)I" } : Jvm.MethodName)) ∈ lw_g := List.mem_filter.mpr ⟨List.mem_append_right _ (List.mem_of_getElem? (i := 212) (by decide +kernel)), by decide +kernel⟩
theorem tw_213 : (Jvm.Cond.selects "MotionLab$Springs" ({ cls := "MotionLab$Springs", name := "secondBody", desc := "(I)I" } : Jvm.MethodName) ({ cls := "MotionLab$Springs", name := "secondBody", desc := "(I)I" } : Jvm.MethodName)) ∈ lw_g := List.mem_filter.mpr ⟨List.mem_append_right _ (List.mem_of_getElem? (i := 213) (by decide +kernel)), by decide +kernel⟩
theorem tw_214 : (Jvm.Cond.code ({ cls := "MotionLab$Springs", name := "secondBody", desc := "(I)I" } : Jvm.MethodName) prog_4_method_6_code (2 : Nat) (Option.some Jvm.ClassFile.FieldType.int)) ∈ lw_g := List.mem_filter.mpr ⟨List.mem_append_right _ (List.mem_of_getElem? (i := 214) (by decide +kernel)), by decide +kernel⟩
theorem tw_215 : (Jvm.Cond.methodLink "MotionLab$Plane" (96 : Nat) ({ cls := "MotionLab$Ieee", name := "products", desc := "(JJJJ)J" } : Jvm.MethodName)) ∈ lw_g := List.mem_filter.mpr ⟨List.mem_append_right _ (List.mem_of_getElem? (i := 215) (by decide +kernel)), by decide +kernel⟩
theorem tw_216 : (Jvm.Cond.static ({ cls := "MotionLab$Ieee", name := "products", desc := "(JJJJ)J" } : Jvm.MethodName)) ∈ lw_g := List.mem_filter.mpr ⟨List.mem_append_right _ (List.mem_of_getElem? (i := 216) (by decide +kernel)), by decide +kernel⟩
theorem tw_217 : (Jvm.Cond.code ({ cls := "MotionLab$Ieee", name := "products", desc := "(JJJJ)J" } : Jvm.MethodName) prog_2_method_18_code (8 : Nat) (Option.some Jvm.ClassFile.FieldType.long)) ∈ lw_g := List.mem_filter.mpr ⟨List.mem_append_right _ (List.mem_of_getElem? (i := 217) (by decide +kernel)), by decide +kernel⟩
theorem tw_219 : (Jvm.Cond.methodLink "MotionLab$Plane" (100 : Nat) ({ cls := "MotionLab$Ieee", name := "root", desc := "(J)J" } : Jvm.MethodName)) ∈ lw_g := List.mem_filter.mpr ⟨List.mem_append_right _ (List.mem_of_getElem? (i := 219) (by decide +kernel)), by decide +kernel⟩
theorem tw_230 : (Jvm.Cond.methodLink "MotionLab$Plane" (103 : Nat) ({ cls := "MotionLab$Ieee", name := "less", desc := "(JJ)Z" } : Jvm.MethodName)) ∈ lw_g := List.mem_filter.mpr ⟨List.mem_append_right _ (List.mem_of_getElem? (i := 230) (by decide +kernel)), by decide +kernel⟩
theorem tw_231 : (Jvm.Cond.static ({ cls := "MotionLab$Ieee", name := "less", desc := "(JJ)Z" } : Jvm.MethodName)) ∈ lw_g := List.mem_filter.mpr ⟨List.mem_append_right _ (List.mem_of_getElem? (i := 231) (by decide +kernel)), by decide +kernel⟩
theorem tw_232 : (Jvm.Cond.code ({ cls := "MotionLab$Ieee", name := "less", desc := "(JJ)Z" } : Jvm.MethodName) prog_2_method_8_code (4 : Nat) (Option.some Jvm.ClassFile.FieldType.boolean)) ∈ lw_g := List.mem_filter.mpr ⟨List.mem_append_right _ (List.mem_of_getElem? (i := 232) (by decide +kernel)), by decide +kernel⟩
theorem tw_236 : (Jvm.Cond.methodLink "MotionLab$Plane" (107 : Nat) ({ cls := "MotionLab$Springs", name := "stiffness", desc := "(I)J" } : Jvm.MethodName)) ∈ lw_g := List.mem_filter.mpr ⟨List.mem_append_right _ (List.mem_of_getElem? (i := 236) (by decide +kernel)), by decide +kernel⟩
theorem tw_237 : (Jvm.Cond.instanceMethod ({ cls := "MotionLab$Springs", name := "stiffness", desc := "(I)J" } : Jvm.MethodName)) ∈ lw_g := List.mem_filter.mpr ⟨List.mem_append_right _ (List.mem_of_getElem? (i := 237) (by decide +kernel)), by decide +kernel⟩
theorem tw_238 : (Jvm.Cond.selects "MotionLab$Springs" ({ cls := "MotionLab$Springs", name := "stiffness", desc := "(I)J" } : Jvm.MethodName) ({ cls := "MotionLab$Springs", name := "stiffness", desc := "(I)J" } : Jvm.MethodName)) ∈ lw_g := List.mem_filter.mpr ⟨List.mem_append_right _ (List.mem_of_getElem? (i := 238) (by decide +kernel)), by decide +kernel⟩
theorem tw_239 : (Jvm.Cond.code ({ cls := "MotionLab$Springs", name := "stiffness", desc := "(I)J" } : Jvm.MethodName) prog_4_method_7_code (2 : Nat) (Option.some Jvm.ClassFile.FieldType.long)) ∈ lw_g := List.mem_filter.mpr ⟨List.mem_append_right _ (List.mem_of_getElem? (i := 239) (by decide +kernel)), by decide +kernel⟩
theorem tw_240 : (Jvm.Cond.methodLink "MotionLab$Plane" (110 : Nat) ({ cls := "MotionLab$Springs", name := "length", desc := "(I)J" } : Jvm.MethodName)) ∈ lw_g := List.mem_filter.mpr ⟨List.mem_append_right _ (List.mem_of_getElem? (i := 240) (by decide +kernel)), by decide +kernel⟩
theorem tw_241 : (Jvm.Cond.instanceMethod ({ cls := "MotionLab$Springs", name := "length", desc := "(I)J" } : Jvm.MethodName)) ∈ lw_g := List.mem_filter.mpr ⟨List.mem_append_right _ (List.mem_of_getElem? (i := 241) (by decide +kernel)), by decide +kernel⟩
theorem tw_242 : (Jvm.Cond.selects "MotionLab$Springs" ({ cls := "MotionLab$Springs", name := "length", desc := "(I)J" } : Jvm.MethodName) ({ cls := "MotionLab$Springs", name := "length", desc := "(I)J" } : Jvm.MethodName)) ∈ lw_g := List.mem_filter.mpr ⟨List.mem_append_right _ (List.mem_of_getElem? (i := 242) (by decide +kernel)), by decide +kernel⟩
theorem tw_243 : (Jvm.Cond.code ({ cls := "MotionLab$Springs", name := "length", desc := "(I)J" } : Jvm.MethodName) prog_4_method_8_code (2 : Nat) (Option.some Jvm.ClassFile.FieldType.long)) ∈ lw_g := List.mem_filter.mpr ⟨List.mem_append_right _ (List.mem_of_getElem? (i := 243) (by decide +kernel)), by decide +kernel⟩
theorem tw_244 : (Jvm.Cond.methodLink "MotionLab$Plane" (113 : Nat) ({ cls := "MotionLab$Springs", name := "damping", desc := "(I)J" } : Jvm.MethodName)) ∈ lw_g := List.mem_filter.mpr ⟨List.mem_append_right _ (List.mem_of_getElem? (i := 244) (by decide +kernel)), by decide +kernel⟩
theorem tw_245 : (Jvm.Cond.instanceMethod ({ cls := "MotionLab$Springs", name := "damping", desc := "(I)J" } : Jvm.MethodName)) ∈ lw_g := List.mem_filter.mpr ⟨List.mem_append_right _ (List.mem_of_getElem? (i := 245) (by decide +kernel)), by decide +kernel⟩
theorem tw_246 : (Jvm.Cond.selects "MotionLab$Springs" ({ cls := "MotionLab$Springs", name := "damping", desc := "(I)J" } : Jvm.MethodName) ({ cls := "MotionLab$Springs", name := "damping", desc := "(I)J" } : Jvm.MethodName)) ∈ lw_g := List.mem_filter.mpr ⟨List.mem_append_right _ (List.mem_of_getElem? (i := 246) (by decide +kernel)), by decide +kernel⟩
theorem tw_247 : (Jvm.Cond.code ({ cls := "MotionLab$Springs", name := "damping", desc := "(I)J" } : Jvm.MethodName) prog_4_method_9_code (2 : Nat) (Option.some Jvm.ClassFile.FieldType.long)) ∈ lw_g := List.mem_filter.mpr ⟨List.mem_append_right _ (List.mem_of_getElem? (i := 247) (by decide +kernel)), by decide +kernel⟩
theorem tw_248 : (Jvm.Cond.methodLink "MotionLab$Plane" (83 : Nat) ({ cls := "MotionLab$Ieee", name := "quotient", desc := "(JJ)J" } : Jvm.MethodName)) ∈ lw_g := List.mem_filter.mpr ⟨List.mem_append_right _ (List.mem_of_getElem? (i := 248) (by decide +kernel)), by decide +kernel⟩
theorem tw_249 : (Jvm.Cond.methodLink "MotionLab$Plane" (63 : Nat) ({ cls := "MotionLab$Ieee", name := "sum", desc := "(JJ)J" } : Jvm.MethodName)) ∈ lw_g := List.mem_filter.mpr ⟨List.mem_append_right _ (List.mem_of_getElem? (i := 249) (by decide +kernel)), by decide +kernel⟩
theorem tw_250 : (Jvm.Cond.methodLink "MotionLab$Plane" (49 : Nat) ({ cls := "MotionLab$Plane", name := "move", desc := "(I)V" } : Jvm.MethodName)) ∈ lw_g := List.mem_filter.mpr ⟨List.mem_append_right _ (List.mem_of_getElem? (i := 250) (by decide +kernel)), by decide +kernel⟩
theorem tw_252 : (Jvm.Cond.instanceMethod ({ cls := "MotionLab$Plane", name := "move", desc := "(I)V" } : Jvm.MethodName)) ∈ lw_g := List.mem_filter.mpr ⟨List.mem_append_right _ (List.mem_of_getElem? (i := 252) (by decide +kernel)), by decide +kernel⟩
theorem tw_253 : (Jvm.Cond.code ({ cls := "MotionLab$Plane", name := "move", desc := "(I)V" } : Jvm.MethodName) prog_3_method_14_code (2 : Nat) (Option.none : Option Jvm.ClassFile.FieldType)) ∈ lw_g := List.mem_filter.mpr ⟨List.mem_append_right _ (List.mem_of_getElem? (i := 253) (by decide +kernel)), by decide +kernel⟩
theorem tw_254 : (Jvm.Cond.methodLink "MotionLab$Plane" (116 : Nat) ({ cls := "MotionLab$Plane", name := "afterDt", desc := "(JJ)J" } : Jvm.MethodName)) ∈ lw_g := List.mem_filter.mpr ⟨List.mem_append_right _ (List.mem_of_getElem? (i := 254) (by decide +kernel)), by decide +kernel⟩
theorem tw_256 : (Jvm.Cond.instanceMethod ({ cls := "MotionLab$Plane", name := "afterDt", desc := "(JJ)J" } : Jvm.MethodName)) ∈ lw_g := List.mem_filter.mpr ⟨List.mem_append_right _ (List.mem_of_getElem? (i := 256) (by decide +kernel)), by decide +kernel⟩
theorem tw_257 : (Jvm.Cond.code ({ cls := "MotionLab$Plane", name := "afterDt", desc := "(JJ)J" } : Jvm.MethodName) prog_3_method_15_code (5 : Nat) (Option.some Jvm.ClassFile.FieldType.long)) ∈ lw_g := List.mem_filter.mpr ⟨List.mem_append_right _ (List.mem_of_getElem? (i := 257) (by decide +kernel)), by decide +kernel⟩
theorem tw_258 : (Jvm.Cond.methodLink "MotionLab$Plane" (52 : Nat) ({ cls := "MotionLab$Plane", name := "keepInside", desc := "(II)V" } : Jvm.MethodName)) ∈ lw_g := List.mem_filter.mpr ⟨List.mem_append_right _ (List.mem_of_getElem? (i := 258) (by decide +kernel)), by decide +kernel⟩
theorem tw_260 : (Jvm.Cond.instanceMethod ({ cls := "MotionLab$Plane", name := "keepInside", desc := "(II)V" } : Jvm.MethodName)) ∈ lw_g := List.mem_filter.mpr ⟨List.mem_append_right _ (List.mem_of_getElem? (i := 260) (by decide +kernel)), by decide +kernel⟩
theorem tw_261 : (Jvm.Cond.code ({ cls := "MotionLab$Plane", name := "keepInside", desc := "(II)V" } : Jvm.MethodName) prog_3_method_16_code (14 : Nat) (Option.none : Option Jvm.ClassFile.FieldType)) ∈ lw_g := List.mem_filter.mpr ⟨List.mem_append_right _ (List.mem_of_getElem? (i := 261) (by decide +kernel)), by decide +kernel⟩
theorem tw_262 : (Jvm.Cond.methodLink "MotionLab$Plane" (119 : Nat) ({ cls := "MotionLab$Ieee", name := "negated", desc := "(J)J" } : Jvm.MethodName)) ∈ lw_g := List.mem_filter.mpr ⟨List.mem_append_right _ (List.mem_of_getElem? (i := 262) (by decide +kernel)), by decide +kernel⟩
theorem tw_265 : (Jvm.Cond.methodLink "MotionLab$Plane" (56 : Nat) ({ cls := "MotionLab$Plane", name := "collide", desc := "(II)V" } : Jvm.MethodName)) ∈ lw_g := List.mem_filter.mpr ⟨List.mem_append_right _ (List.mem_of_getElem? (i := 265) (by decide +kernel)), by decide +kernel⟩
theorem tw_267 : (Jvm.Cond.instanceMethod ({ cls := "MotionLab$Plane", name := "collide", desc := "(II)V" } : Jvm.MethodName)) ∈ lw_g := List.mem_filter.mpr ⟨List.mem_append_right _ (List.mem_of_getElem? (i := 267) (by decide +kernel)), by decide +kernel⟩
theorem tw_268 : (Jvm.Cond.code ({ cls := "MotionLab$Plane", name := "collide", desc := "(II)V" } : Jvm.MethodName) prog_3_method_17_code (25 : Nat) (Option.none : Option Jvm.ClassFile.FieldType)) ∈ lw_g := List.mem_filter.mpr ⟨List.mem_append_right _ (List.mem_of_getElem? (i := 268) (by decide +kernel)), by decide +kernel⟩
theorem tw_269 : (Jvm.Cond.constantLong "MotionLab$Plane" (122 : Nat) (4611686018427387904 : Int64)) ∈ lw_g := List.mem_filter.mpr ⟨List.mem_append_right _ (List.mem_of_getElem? (i := 269) (by decide +kernel)), by decide +kernel⟩
theorem tw_274 : (Jvm.Cond.methodLink "MotionLab" (69 : Nat) ({ cls := "MotionLab$Plane", name := "bodyNumber", desc := "(II)J" } : Jvm.MethodName)) ∈ lw_g := List.mem_filter.mpr ⟨List.mem_append_right _ (List.mem_of_getElem? (i := 274) (by decide +kernel)), by decide +kernel⟩
theorem tw_275 : (Jvm.Cond.instanceMethod ({ cls := "MotionLab$Plane", name := "bodyNumber", desc := "(II)J" } : Jvm.MethodName)) ∈ lw_g := List.mem_filter.mpr ⟨List.mem_append_right _ (List.mem_of_getElem? (i := 275) (by decide +kernel)), by decide +kernel⟩
theorem tw_276 : (Jvm.Cond.selects "MotionLab$Plane" ({ cls := "MotionLab$Plane", name := "bodyNumber", desc := "(II)J" } : Jvm.MethodName) ({ cls := "MotionLab$Plane", name := "bodyNumber", desc := "(II)J" } : Jvm.MethodName)) ∈ lw_g := List.mem_filter.mpr ⟨List.mem_append_right _ (List.mem_of_getElem? (i := 276) (by decide +kernel)), by decide +kernel⟩
theorem tw_277 : (Jvm.Cond.code ({ cls := "MotionLab$Plane", name := "bodyNumber", desc := "(II)J" } : Jvm.MethodName) prog_3_method_7_code (3 : Nat) (Option.some Jvm.ClassFile.FieldType.long)) ∈ lw_g := List.mem_filter.mpr ⟨List.mem_append_right _ (List.mem_of_getElem? (i := 277) (by decide +kernel)), by decide +kernel⟩
theorem tw_282 : (Jvm.Cond.methodLink "MotionLab" (73 : Nat) ({ cls := "MotionLab$Plane", name := "fieldNumber", desc := "(I)J" } : Jvm.MethodName)) ∈ lw_g := List.mem_filter.mpr ⟨List.mem_append_right _ (List.mem_of_getElem? (i := 282) (by decide +kernel)), by decide +kernel⟩
theorem tw_283 : (Jvm.Cond.instanceMethod ({ cls := "MotionLab$Plane", name := "fieldNumber", desc := "(I)J" } : Jvm.MethodName)) ∈ lw_g := List.mem_filter.mpr ⟨List.mem_append_right _ (List.mem_of_getElem? (i := 283) (by decide +kernel)), by decide +kernel⟩
theorem tw_284 : (Jvm.Cond.selects "MotionLab$Plane" ({ cls := "MotionLab$Plane", name := "fieldNumber", desc := "(I)J" } : Jvm.MethodName) ({ cls := "MotionLab$Plane", name := "fieldNumber", desc := "(I)J" } : Jvm.MethodName)) ∈ lw_g := List.mem_filter.mpr ⟨List.mem_append_right _ (List.mem_of_getElem? (i := 284) (by decide +kernel)), by decide +kernel⟩
theorem tw_285 : (Jvm.Cond.code ({ cls := "MotionLab$Plane", name := "fieldNumber", desc := "(I)J" } : Jvm.MethodName) prog_3_method_8_code (2 : Nat) (Option.some Jvm.ClassFile.FieldType.long)) ∈ lw_g := List.mem_filter.mpr ⟨List.mem_append_right _ (List.mem_of_getElem? (i := 285) (by decide +kernel)), by decide +kernel⟩
theorem tw_290 : (Jvm.Cond.methodLink "MotionLab" (76 : Nat) ({ cls := "MotionLab", name := "isStore", desc := "(I)Z" } : Jvm.MethodName)) ∈ lw_g := List.mem_filter.mpr ⟨List.mem_append_right _ (List.mem_of_getElem? (i := 290) (by decide +kernel)), by decide +kernel⟩
theorem tw_291 : (Jvm.Cond.static ({ cls := "MotionLab", name := "isStore", desc := "(I)Z" } : Jvm.MethodName)) ∈ lw_g := List.mem_filter.mpr ⟨List.mem_append_right _ (List.mem_of_getElem? (i := 291) (by decide +kernel)), by decide +kernel⟩
theorem tw_292 : (Jvm.Cond.code ({ cls := "MotionLab", name := "isStore", desc := "(I)Z" } : Jvm.MethodName) prog_1_method_19_code (1 : Nat) (Option.some Jvm.ClassFile.FieldType.boolean)) ∈ lw_g := List.mem_filter.mpr ⟨List.mem_append_right _ (List.mem_of_getElem? (i := 292) (by decide +kernel)), by decide +kernel⟩
theorem tw_293 : (Jvm.Cond.methodLink "MotionLab" (79 : Nat) ({ cls := "MotionLab$Ieee", name := "told", desc := "(J)J" } : Jvm.MethodName)) ∈ lw_g := List.mem_filter.mpr ⟨List.mem_append_right _ (List.mem_of_getElem? (i := 293) (by decide +kernel)), by decide +kernel⟩
theorem tw_298 : (Jvm.Cond.methodLink "MotionLab" (83 : Nat) ({ cls := "MotionLab", name := "result", desc := "(IJJ)J" } : Jvm.MethodName)) ∈ lw_g := List.mem_filter.mpr ⟨List.mem_append_right _ (List.mem_of_getElem? (i := 298) (by decide +kernel)), by decide +kernel⟩
theorem tw_299 : (Jvm.Cond.static ({ cls := "MotionLab", name := "result", desc := "(IJJ)J" } : Jvm.MethodName)) ∈ lw_g := List.mem_filter.mpr ⟨List.mem_append_right _ (List.mem_of_getElem? (i := 299) (by decide +kernel)), by decide +kernel⟩
theorem tw_300 : (Jvm.Cond.code ({ cls := "MotionLab", name := "result", desc := "(IJJ)J" } : Jvm.MethodName) prog_1_method_20_code (5 : Nat) (Option.some Jvm.ClassFile.FieldType.long)) ∈ lw_g := List.mem_filter.mpr ⟨List.mem_append_right _ (List.mem_of_getElem? (i := 300) (by decide +kernel)), by decide +kernel⟩
theorem tw_329 : (Jvm.Cond.methodLink "MotionLab" (87 : Nat) ({ cls := "MotionLab$Ieee", name := "ofWhole", desc := "(J)J" } : Jvm.MethodName)) ∈ lw_g := List.mem_filter.mpr ⟨List.mem_append_right _ (List.mem_of_getElem? (i := 329) (by decide +kernel)), by decide +kernel⟩
theorem tw_330 : (Jvm.Cond.static ({ cls := "MotionLab$Ieee", name := "ofWhole", desc := "(J)J" } : Jvm.MethodName)) ∈ lw_g := List.mem_filter.mpr ⟨List.mem_append_right _ (List.mem_of_getElem? (i := 330) (by decide +kernel)), by decide +kernel⟩
theorem tw_331 : (Jvm.Cond.code ({ cls := "MotionLab$Ieee", name := "ofWhole", desc := "(J)J" } : Jvm.MethodName) prog_2_method_26_code (2 : Nat) (Option.some Jvm.ClassFile.FieldType.long)) ∈ lw_g := List.mem_filter.mpr ⟨List.mem_append_right _ (List.mem_of_getElem? (i := 331) (by decide +kernel)), by decide +kernel⟩
theorem tw_335 : (Jvm.Cond.methodLink "MotionLab" (90 : Nat) ({ cls := "MotionLab$Ieee", name := "floatOfWhole", desc := "(J)J" } : Jvm.MethodName)) ∈ lw_g := List.mem_filter.mpr ⟨List.mem_append_right _ (List.mem_of_getElem? (i := 335) (by decide +kernel)), by decide +kernel⟩
theorem tw_336 : (Jvm.Cond.static ({ cls := "MotionLab$Ieee", name := "floatOfWhole", desc := "(J)J" } : Jvm.MethodName)) ∈ lw_g := List.mem_filter.mpr ⟨List.mem_append_right _ (List.mem_of_getElem? (i := 336) (by decide +kernel)), by decide +kernel⟩
theorem tw_337 : (Jvm.Cond.code ({ cls := "MotionLab$Ieee", name := "floatOfWhole", desc := "(J)J" } : Jvm.MethodName) prog_2_method_27_code (2 : Nat) (Option.some Jvm.ClassFile.FieldType.long)) ∈ lw_g := List.mem_filter.mpr ⟨List.mem_append_right _ (List.mem_of_getElem? (i := 337) (by decide +kernel)), by decide +kernel⟩
theorem tw_342 : (Jvm.Cond.constantLong "MotionLab" (93 : Nat) (4611686018427387904 : Int64)) ∈ lw_g := List.mem_filter.mpr ⟨List.mem_append_right _ (List.mem_of_getElem? (i := 342) (by decide +kernel)), by decide +kernel⟩
theorem tw_343 : (Jvm.Cond.methodLink "MotionLab" (95 : Nat) ({ cls := "MotionLab$Ieee", name := "toInt", desc := "(J)I" } : Jvm.MethodName)) ∈ lw_g := List.mem_filter.mpr ⟨List.mem_append_right _ (List.mem_of_getElem? (i := 343) (by decide +kernel)), by decide +kernel⟩
theorem tw_344 : (Jvm.Cond.static ({ cls := "MotionLab$Ieee", name := "toInt", desc := "(J)I" } : Jvm.MethodName)) ∈ lw_g := List.mem_filter.mpr ⟨List.mem_append_right _ (List.mem_of_getElem? (i := 344) (by decide +kernel)), by decide +kernel⟩
theorem tw_345 : (Jvm.Cond.code ({ cls := "MotionLab$Ieee", name := "toInt", desc := "(J)I" } : Jvm.MethodName) prog_2_method_28_code (2 : Nat) (Option.some Jvm.ClassFile.FieldType.int)) ∈ lw_g := List.mem_filter.mpr ⟨List.mem_append_right _ (List.mem_of_getElem? (i := 345) (by decide +kernel)), by decide +kernel⟩
theorem tw_357 : (Jvm.Cond.methodLink "MotionLab" (99 : Nat) ({ cls := "MotionLab$Ieee", name := "toLong", desc := "(J)J" } : Jvm.MethodName)) ∈ lw_g := List.mem_filter.mpr ⟨List.mem_append_right _ (List.mem_of_getElem? (i := 357) (by decide +kernel)), by decide +kernel⟩
theorem tw_362 : (Jvm.Cond.methodLink "MotionLab" (102 : Nat) ({ cls := "MotionLab$Ieee", name := "isNoNumber", desc := "(J)Z" } : Jvm.MethodName)) ∈ lw_g := List.mem_filter.mpr ⟨List.mem_append_right _ (List.mem_of_getElem? (i := 362) (by decide +kernel)), by decide +kernel⟩
theorem tw_363 : (Jvm.Cond.methodLink "MotionLab" (106 : Nat) ({ cls := "MotionLab$Ieee", name := "less", desc := "(JJ)Z" } : Jvm.MethodName)) ∈ lw_g := List.mem_filter.mpr ⟨List.mem_append_right _ (List.mem_of_getElem? (i := 363) (by decide +kernel)), by decide +kernel⟩
theorem tw_368 : (Jvm.Cond.methodLink "MotionLab" (110 : Nat) ({ cls := "MotionLab$Plane", name := "wholeEnergy", desc := "()J" } : Jvm.MethodName)) ∈ lw_g := List.mem_filter.mpr ⟨List.mem_append_right _ (List.mem_of_getElem? (i := 368) (by decide +kernel)), by decide +kernel⟩
theorem tw_369 : (Jvm.Cond.instanceMethod ({ cls := "MotionLab$Plane", name := "wholeEnergy", desc := "()J" } : Jvm.MethodName)) ∈ lw_g := List.mem_filter.mpr ⟨List.mem_append_right _ (List.mem_of_getElem? (i := 369) (by decide +kernel)), by decide +kernel⟩
theorem tw_370 : (Jvm.Cond.selects "MotionLab$Plane" ({ cls := "MotionLab$Plane", name := "wholeEnergy", desc := "()J" } : Jvm.MethodName) ({ cls := "MotionLab$Plane", name := "wholeEnergy", desc := "()J" } : Jvm.MethodName)) ∈ lw_g := List.mem_filter.mpr ⟨List.mem_append_right _ (List.mem_of_getElem? (i := 370) (by decide +kernel)), by decide +kernel⟩
theorem tw_371 : (Jvm.Cond.code ({ cls := "MotionLab$Plane", name := "wholeEnergy", desc := "()J" } : Jvm.MethodName) prog_3_method_10_code (4 : Nat) (Option.some Jvm.ClassFile.FieldType.long)) ∈ lw_g := List.mem_filter.mpr ⟨List.mem_append_right _ (List.mem_of_getElem? (i := 371) (by decide +kernel)), by decide +kernel⟩
theorem tw_372 : (Jvm.Cond.methodLink "MotionLab$Plane" (59 : Nat) ({ cls := "MotionLab$Plane", name := "energyOfMotion", desc := "(I)J" } : Jvm.MethodName)) ∈ lw_g := List.mem_filter.mpr ⟨List.mem_append_right _ (List.mem_of_getElem? (i := 372) (by decide +kernel)), by decide +kernel⟩
theorem tw_374 : (Jvm.Cond.instanceMethod ({ cls := "MotionLab$Plane", name := "energyOfMotion", desc := "(I)J" } : Jvm.MethodName)) ∈ lw_g := List.mem_filter.mpr ⟨List.mem_append_right _ (List.mem_of_getElem? (i := 374) (by decide +kernel)), by decide +kernel⟩
theorem tw_375 : (Jvm.Cond.code ({ cls := "MotionLab$Plane", name := "energyOfMotion", desc := "(I)J" } : Jvm.MethodName) prog_3_method_18_code (6 : Nat) (Option.some Jvm.ClassFile.FieldType.long)) ∈ lw_g := List.mem_filter.mpr ⟨List.mem_append_right _ (List.mem_of_getElem? (i := 375) (by decide +kernel)), by decide +kernel⟩
theorem tw_376 : (Jvm.Cond.constantLong "MotionLab$Plane" (124 : Nat) (4602678819172646912 : Int64)) ∈ lw_g := List.mem_filter.mpr ⟨List.mem_append_right _ (List.mem_of_getElem? (i := 376) (by decide +kernel)), by decide +kernel⟩
theorem tw_377 : (Jvm.Cond.methodLink "MotionLab$Plane" (67 : Nat) ({ cls := "MotionLab$Plane", name := "energyOfPlace", desc := "(I)J" } : Jvm.MethodName)) ∈ lw_g := List.mem_filter.mpr ⟨List.mem_append_right _ (List.mem_of_getElem? (i := 377) (by decide +kernel)), by decide +kernel⟩
theorem tw_379 : (Jvm.Cond.instanceMethod ({ cls := "MotionLab$Plane", name := "energyOfPlace", desc := "(I)J" } : Jvm.MethodName)) ∈ lw_g := List.mem_filter.mpr ⟨List.mem_append_right _ (List.mem_of_getElem? (i := 379) (by decide +kernel)), by decide +kernel⟩
theorem tw_380 : (Jvm.Cond.code ({ cls := "MotionLab$Plane", name := "energyOfPlace", desc := "(I)J" } : Jvm.MethodName) prog_3_method_19_code (4 : Nat) (Option.some Jvm.ClassFile.FieldType.long)) ∈ lw_g := List.mem_filter.mpr ⟨List.mem_append_right _ (List.mem_of_getElem? (i := 380) (by decide +kernel)), by decide +kernel⟩
theorem tw_381 : (Jvm.Cond.methodLink "MotionLab$Plane" (73 : Nat) ({ cls := "MotionLab$Plane", name := "energyOfSpring", desc := "(I)J" } : Jvm.MethodName)) ∈ lw_g := List.mem_filter.mpr ⟨List.mem_append_right _ (List.mem_of_getElem? (i := 381) (by decide +kernel)), by decide +kernel⟩
theorem tw_383 : (Jvm.Cond.instanceMethod ({ cls := "MotionLab$Plane", name := "energyOfSpring", desc := "(I)J" } : Jvm.MethodName)) ∈ lw_g := List.mem_filter.mpr ⟨List.mem_append_right _ (List.mem_of_getElem? (i := 383) (by decide +kernel)), by decide +kernel⟩
theorem tw_384 : (Jvm.Cond.code ({ cls := "MotionLab$Plane", name := "energyOfSpring", desc := "(I)J" } : Jvm.MethodName) prog_3_method_20_code (14 : Nat) (Option.some Jvm.ClassFile.FieldType.long)) ∈ lw_g := List.mem_filter.mpr ⟨List.mem_append_right _ (List.mem_of_getElem? (i := 384) (by decide +kernel)), by decide +kernel⟩
theorem tw_389 : (Jvm.Cond.methodLink "MotionLab" (114 : Nat) ({ cls := "MotionLab$Plane", name := "meanOrSquares", desc := "(IZ)J" } : Jvm.MethodName)) ∈ lw_g := List.mem_filter.mpr ⟨List.mem_append_right _ (List.mem_of_getElem? (i := 389) (by decide +kernel)), by decide +kernel⟩
theorem tw_390 : (Jvm.Cond.instanceMethod ({ cls := "MotionLab$Plane", name := "meanOrSquares", desc := "(IZ)J" } : Jvm.MethodName)) ∈ lw_g := List.mem_filter.mpr ⟨List.mem_append_right _ (List.mem_of_getElem? (i := 390) (by decide +kernel)), by decide +kernel⟩
theorem tw_391 : (Jvm.Cond.selects "MotionLab$Plane" ({ cls := "MotionLab$Plane", name := "meanOrSquares", desc := "(IZ)J" } : Jvm.MethodName) ({ cls := "MotionLab$Plane", name := "meanOrSquares", desc := "(IZ)J" } : Jvm.MethodName)) ∈ lw_g := List.mem_filter.mpr ⟨List.mem_append_right _ (List.mem_of_getElem? (i := 391) (by decide +kernel)), by decide +kernel⟩
theorem tw_392 : (Jvm.Cond.code ({ cls := "MotionLab$Plane", name := "meanOrSquares", desc := "(IZ)J" } : Jvm.MethodName) prog_3_method_11_code (12 : Nat) (Option.some Jvm.ClassFile.FieldType.long)) ∈ lw_g := List.mem_filter.mpr ⟨List.mem_append_right _ (List.mem_of_getElem? (i := 392) (by decide +kernel)), by decide +kernel⟩
theorem tw_393 : (Jvm.Cond.methodLink "MotionLab$Plane" (76 : Nat) ({ cls := "MotionLab$Plane", name := "bodyNumber", desc := "(II)J" } : Jvm.MethodName)) ∈ lw_g := List.mem_filter.mpr ⟨List.mem_append_right _ (List.mem_of_getElem? (i := 393) (by decide +kernel)), by decide +kernel⟩
theorem tw_394 : (Jvm.Cond.methodLink "MotionLab$Plane" (80 : Nat) ({ cls := "MotionLab$Ieee", name := "ofWhole", desc := "(J)J" } : Jvm.MethodName)) ∈ lw_g := List.mem_filter.mpr ⟨List.mem_append_right _ (List.mem_of_getElem? (i := 394) (by decide +kernel)), by decide +kernel⟩
theorem tw_403 : (Jvm.Cond.methodLink "MotionLab" (128 : Nat) ({ cls := "MotionLab$Ieee", name := "floatBits", desc := "(J)I" } : Jvm.MethodName)) ∈ lw_g := List.mem_filter.mpr ⟨List.mem_append_right _ (List.mem_of_getElem? (i := 403) (by decide +kernel)), by decide +kernel⟩
theorem tw_404 : (Jvm.Cond.static ({ cls := "MotionLab$Ieee", name := "floatBits", desc := "(J)I" } : Jvm.MethodName)) ∈ lw_g := List.mem_filter.mpr ⟨List.mem_append_right _ (List.mem_of_getElem? (i := 404) (by decide +kernel)), by decide +kernel⟩
theorem tw_405 : (Jvm.Cond.code ({ cls := "MotionLab$Ieee", name := "floatBits", desc := "(J)I" } : Jvm.MethodName) prog_2_method_25_code (5 : Nat) (Option.some Jvm.ClassFile.FieldType.int)) ∈ lw_g := List.mem_filter.mpr ⟨List.mem_append_right _ (List.mem_of_getElem? (i := 405) (by decide +kernel)), by decide +kernel⟩
theorem tw_421 : (Jvm.Cond.fieldLink "MotionLabModel" (133 : Nat) "MotionLabModel" "x" "[J") ∈ lw_g := List.mem_filter.mpr ⟨List.mem_append_right _ (List.mem_of_getElem? (i := 421) (by decide +kernel)), by decide +kernel⟩
theorem tw_422 : (Jvm.Cond.fieldLink "MotionLabModel" (137 : Nat) "MotionLabModel" "y" "[J") ∈ lw_g := List.mem_filter.mpr ⟨List.mem_append_right _ (List.mem_of_getElem? (i := 422) (by decide +kernel)), by decide +kernel⟩
theorem tw_423 : (Jvm.Cond.fieldLink "MotionLabModel" (140 : Nat) "MotionLabModel" "u" "[J") ∈ lw_g := List.mem_filter.mpr ⟨List.mem_append_right _ (List.mem_of_getElem? (i := 423) (by decide +kernel)), by decide +kernel⟩
theorem tw_424 : (Jvm.Cond.fieldLink "MotionLabModel" (143 : Nat) "MotionLabModel" "v" "[J") ∈ lw_g := List.mem_filter.mpr ⟨List.mem_append_right _ (List.mem_of_getElem? (i := 424) (by decide +kernel)), by decide +kernel⟩
theorem tw_425 : (Jvm.Cond.fieldLink "MotionLabModel" (146 : Nat) "MotionLabModel" "m" "[J") ∈ lw_g := List.mem_filter.mpr ⟨List.mem_append_right _ (List.mem_of_getElem? (i := 425) (by decide +kernel)), by decide +kernel⟩
theorem tw_426 : (Jvm.Cond.fieldLink "MotionLabModel" (149 : Nat) "MotionLabModel" "\x72" "[J") ∈ lw_g := List.mem_filter.mpr ⟨List.mem_append_right _ (List.mem_of_getElem? (i := 426) (by decide +kernel)), by decide +kernel⟩
theorem tw_427 : (Jvm.Cond.fieldLink "MotionLabModel" (152 : Nat) "MotionLabModel" "fx" "[J") ∈ lw_g := List.mem_filter.mpr ⟨List.mem_append_right _ (List.mem_of_getElem? (i := 427) (by decide +kernel)), by decide +kernel⟩
theorem tw_428 : (Jvm.Cond.fieldLink "MotionLabModel" (155 : Nat) "MotionLabModel" "fy" "[J") ∈ lw_g := List.mem_filter.mpr ⟨List.mem_append_right _ (List.mem_of_getElem? (i := 428) (by decide +kernel)), by decide +kernel⟩
theorem tw_429 : (Jvm.Cond.fieldLink "MotionLabModel" (198 : Nat) "MotionLabModel" "gx" "J") ∈ lw_g := List.mem_filter.mpr ⟨List.mem_append_right _ (List.mem_of_getElem? (i := 429) (by decide +kernel)), by decide +kernel⟩
theorem tw_430 : (Jvm.Cond.fieldLink "MotionLabModel" (201 : Nat) "MotionLabModel" "gy" "J") ∈ lw_g := List.mem_filter.mpr ⟨List.mem_append_right _ (List.mem_of_getElem? (i := 430) (by decide +kernel)), by decide +kernel⟩
theorem tw_431 : (Jvm.Cond.fieldLink "MotionLabModel" (204 : Nat) "MotionLabModel" "drag" "J") ∈ lw_g := List.mem_filter.mpr ⟨List.mem_append_right _ (List.mem_of_getElem? (i := 431) (by decide +kernel)), by decide +kernel⟩
theorem tw_432 : (Jvm.Cond.fieldLink "MotionLabModel" (160 : Nat) "MotionLabModel" "dt" "J") ∈ lw_g := List.mem_filter.mpr ⟨List.mem_append_right _ (List.mem_of_getElem? (i := 432) (by decide +kernel)), by decide +kernel⟩
theorem tw_433 : (Jvm.Cond.fieldLink "MotionLabModel" (164 : Nat) "MotionLabModel" "wall" "J") ∈ lw_g := List.mem_filter.mpr ⟨List.mem_append_right _ (List.mem_of_getElem? (i := 433) (by decide +kernel)), by decide +kernel⟩
theorem tw_434 : (Jvm.Cond.fieldLink "MotionLabModel" (169 : Nat) "MotionLabModel" "back" "J") ∈ lw_g := List.mem_filter.mpr ⟨List.mem_append_right _ (List.mem_of_getElem? (i := 434) (by decide +kernel)), by decide +kernel⟩
theorem tw_435 : (Jvm.Cond.fieldLink "MotionLabModel" (172 : Nat) "MotionLabModel" "left" "[I") ∈ lw_g := List.mem_filter.mpr ⟨List.mem_append_right _ (List.mem_of_getElem? (i := 435) (by decide +kernel)), by decide +kernel⟩
theorem tw_436 : (Jvm.Cond.fieldLink "MotionLabModel" (175 : Nat) "MotionLabModel" "right" "[I") ∈ lw_g := List.mem_filter.mpr ⟨List.mem_append_right _ (List.mem_of_getElem? (i := 436) (by decide +kernel)), by decide +kernel⟩
theorem tw_437 : (Jvm.Cond.fieldLink "MotionLabModel" (178 : Nat) "MotionLabModel" "k" "[J") ∈ lw_g := List.mem_filter.mpr ⟨List.mem_append_right _ (List.mem_of_getElem? (i := 437) (by decide +kernel)), by decide +kernel⟩
theorem tw_438 : (Jvm.Cond.fieldLink "MotionLabModel" (181 : Nat) "MotionLabModel" "l" "[J") ∈ lw_g := List.mem_filter.mpr ⟨List.mem_append_right _ (List.mem_of_getElem? (i := 438) (by decide +kernel)), by decide +kernel⟩
theorem tw_439 : (Jvm.Cond.fieldLink "MotionLabModel" (184 : Nat) "MotionLabModel" "c" "[J") ∈ lw_g := List.mem_filter.mpr ⟨List.mem_append_right _ (List.mem_of_getElem? (i := 439) (by decide +kernel)), by decide +kernel⟩
theorem tw_440 : (Jvm.Cond.fieldLink "MotionLabModel" (209 : Nat) "MotionLabModel" "springs" "I") ∈ lw_g := List.mem_filter.mpr ⟨List.mem_append_right _ (List.mem_of_getElem? (i := 440) (by decide +kernel)), by decide +kernel⟩
theorem tw_441 : (Jvm.Cond.fieldLink "MotionLabModel" (187 : Nat) "MotionLabModel" "store" "[J") ∈ lw_g := List.mem_filter.mpr ⟨List.mem_append_right _ (List.mem_of_getElem? (i := 441) (by decide +kernel)), by decide +kernel⟩
theorem tw_489 : (Jvm.Cond.methodLink "MotionLabModel" (190 : Nat) ({ cls := "MotionLabModel", name := "in", desc := "(II)Z" } : Jvm.MethodName)) ∈ lw_g := List.mem_filter.mpr ⟨List.mem_append_right _ (List.mem_of_getElem? (i := 489) (by decide +kernel)), by decide +kernel⟩
theorem tw_490 : (Jvm.Cond.static ({ cls := "MotionLabModel", name := "in", desc := "(II)Z" } : Jvm.MethodName)) ∈ lw_g := List.mem_filter.mpr ⟨List.mem_append_right _ (List.mem_of_getElem? (i := 490) (by decide +kernel)), by decide +kernel⟩
theorem tw_491 : (Jvm.Cond.code ({ cls := "MotionLabModel", name := "in", desc := "(II)Z" } : Jvm.MethodName) prog_6_method_32_code (2 : Nat) (Option.some Jvm.ClassFile.FieldType.boolean)) ∈ lw_g := List.mem_filter.mpr ⟨List.mem_append_right _ (List.mem_of_getElem? (i := 491) (by decide +kernel)), by decide +kernel⟩
theorem tw_554 : (Jvm.Cond.methodLink "MotionLabModel" (213 : Nat) ({ cls := "MotionLabModel", name := "floatOf", desc := "(I)J" } : Jvm.MethodName)) ∈ lw_g := List.mem_filter.mpr ⟨List.mem_append_right _ (List.mem_of_getElem? (i := 554) (by decide +kernel)), by decide +kernel⟩
theorem tw_555 : (Jvm.Cond.static ({ cls := "MotionLabModel", name := "floatOf", desc := "(I)J" } : Jvm.MethodName)) ∈ lw_g := List.mem_filter.mpr ⟨List.mem_append_right _ (List.mem_of_getElem? (i := 555) (by decide +kernel)), by decide +kernel⟩
theorem tw_556 : (Jvm.Cond.code ({ cls := "MotionLabModel", name := "floatOf", desc := "(I)J" } : Jvm.MethodName) prog_6_method_35_code (1 : Nat) (Option.some Jvm.ClassFile.FieldType.long)) ∈ lw_g := List.mem_filter.mpr ⟨List.mem_append_right _ (List.mem_of_getElem? (i := 556) (by decide +kernel)), by decide +kernel⟩
theorem tw_566 : (Jvm.Cond.methodLink "MotionLabModel" (244 : Nat) ({ cls := "MotionLabModel", name := "once", desc := "()V" } : Jvm.MethodName)) ∈ lw_g := List.mem_filter.mpr ⟨List.mem_append_right _ (List.mem_of_getElem? (i := 566) (by decide +kernel)), by decide +kernel⟩
theorem tw_568 : (Jvm.Cond.instanceMethod ({ cls := "MotionLabModel", name := "once", desc := "()V" } : Jvm.MethodName)) ∈ lw_g := List.mem_filter.mpr ⟨List.mem_append_right _ (List.mem_of_getElem? (i := 568) (by decide +kernel)), by decide +kernel⟩
theorem tw_569 : (Jvm.Cond.code ({ cls := "MotionLabModel", name := "once", desc := "()V" } : Jvm.MethodName) prog_6_method_43_code (3 : Nat) (Option.none : Option Jvm.ClassFile.FieldType)) ∈ lw_g := List.mem_filter.mpr ⟨List.mem_append_right _ (List.mem_of_getElem? (i := 569) (by decide +kernel)), by decide +kernel⟩
theorem tw_588 : (Jvm.Cond.methodLink "MotionLabModel" (218 : Nat) ({ cls := "MotionLabModel", name := "subtract", desc := "(JJ)J" } : Jvm.MethodName)) ∈ lw_g := List.mem_filter.mpr ⟨List.mem_append_right _ (List.mem_of_getElem? (i := 588) (by decide +kernel)), by decide +kernel⟩
theorem tw_589 : (Jvm.Cond.static ({ cls := "MotionLabModel", name := "subtract", desc := "(JJ)J" } : Jvm.MethodName)) ∈ lw_g := List.mem_filter.mpr ⟨List.mem_append_right _ (List.mem_of_getElem? (i := 589) (by decide +kernel)), by decide +kernel⟩
theorem tw_590 : (Jvm.Cond.code ({ cls := "MotionLabModel", name := "subtract", desc := "(JJ)J" } : Jvm.MethodName) prog_6_method_27_code (4 : Nat) (Option.some Jvm.ClassFile.FieldType.long)) ∈ lw_g := List.mem_filter.mpr ⟨List.mem_append_right _ (List.mem_of_getElem? (i := 590) (by decide +kernel)), by decide +kernel⟩
theorem tw_600 : (Jvm.Cond.methodLink "MotionLabModel" (232 : Nat) ({ cls := "MotionLabModel", name := "pull", desc := "(I)V" } : Jvm.MethodName)) ∈ lw_g := List.mem_filter.mpr ⟨List.mem_append_right _ (List.mem_of_getElem? (i := 600) (by decide +kernel)), by decide +kernel⟩
theorem tw_602 : (Jvm.Cond.instanceMethod ({ cls := "MotionLabModel", name := "pull", desc := "(I)V" } : Jvm.MethodName)) ∈ lw_g := List.mem_filter.mpr ⟨List.mem_append_right _ (List.mem_of_getElem? (i := 602) (by decide +kernel)), by decide +kernel⟩
theorem tw_603 : (Jvm.Cond.code ({ cls := "MotionLabModel", name := "pull", desc := "(I)V" } : Jvm.MethodName) prog_6_method_40_code (14 : Nat) (Option.none : Option Jvm.ClassFile.FieldType)) ∈ lw_g := List.mem_filter.mpr ⟨List.mem_append_right _ (List.mem_of_getElem? (i := 603) (by decide +kernel)), by decide +kernel⟩
theorem tw_604 : (Jvm.Cond.methodLink "MotionLabModel" (226 : Nat) ({ cls := "MotionLabModel", name := "distance", desc := "(I)J" } : Jvm.MethodName)) ∈ lw_g := List.mem_filter.mpr ⟨List.mem_append_right _ (List.mem_of_getElem? (i := 604) (by decide +kernel)), by decide +kernel⟩
theorem tw_606 : (Jvm.Cond.instanceMethod ({ cls := "MotionLabModel", name := "distance", desc := "(I)J" } : Jvm.MethodName)) ∈ lw_g := List.mem_filter.mpr ⟨List.mem_append_right _ (List.mem_of_getElem? (i := 606) (by decide +kernel)), by decide +kernel⟩
theorem tw_607 : (Jvm.Cond.code ({ cls := "MotionLabModel", name := "distance", desc := "(I)J" } : Jvm.MethodName) prog_6_method_39_code (2 : Nat) (Option.some Jvm.ClassFile.FieldType.long)) ∈ lw_g := List.mem_filter.mpr ⟨List.mem_append_right _ (List.mem_of_getElem? (i := 607) (by decide +kernel)), by decide +kernel⟩
theorem tw_608 : (Jvm.Cond.methodLink "MotionLabModel" (220 : Nat) ({ cls := "MotionLabModel", name := "square", desc := "(JJ)J" } : Jvm.MethodName)) ∈ lw_g := List.mem_filter.mpr ⟨List.mem_append_right _ (List.mem_of_getElem? (i := 608) (by decide +kernel)), by decide +kernel⟩
theorem tw_609 : (Jvm.Cond.static ({ cls := "MotionLabModel", name := "square", desc := "(JJ)J" } : Jvm.MethodName)) ∈ lw_g := List.mem_filter.mpr ⟨List.mem_append_right _ (List.mem_of_getElem? (i := 609) (by decide +kernel)), by decide +kernel⟩
theorem tw_610 : (Jvm.Cond.code ({ cls := "MotionLabModel", name := "square", desc := "(JJ)J" } : Jvm.MethodName) prog_6_method_38_code (4 : Nat) (Option.some Jvm.ClassFile.FieldType.long)) ∈ lw_g := List.mem_filter.mpr ⟨List.mem_append_right _ (List.mem_of_getElem? (i := 610) (by decide +kernel)), by decide +kernel⟩
theorem tw_631 : (Jvm.Cond.methodLink "MotionLabModel" (236 : Nat) ({ cls := "MotionLabModel", name := "go", desc := "([J[J[JI)V" } : Jvm.MethodName)) ∈ lw_g := List.mem_filter.mpr ⟨List.mem_append_right _ (List.mem_of_getElem? (i := 631) (by decide +kernel)), by decide +kernel⟩
theorem tw_633 : (Jvm.Cond.instanceMethod ({ cls := "MotionLabModel", name := "go", desc := "([J[J[JI)V" } : Jvm.MethodName)) ∈ lw_g := List.mem_filter.mpr ⟨List.mem_append_right _ (List.mem_of_getElem? (i := 633) (by decide +kernel)), by decide +kernel⟩
theorem tw_634 : (Jvm.Cond.code ({ cls := "MotionLabModel", name := "go", desc := "([J[J[JI)V" } : Jvm.MethodName) prog_6_method_41_code (9 : Nat) (Option.none : Option Jvm.ClassFile.FieldType)) ∈ lw_g := List.mem_filter.mpr ⟨List.mem_append_right _ (List.mem_of_getElem? (i := 634) (by decide +kernel)), by decide +kernel⟩
theorem tw_635 : (Jvm.Cond.methodLink "MotionLabModel" (240 : Nat) ({ cls := "MotionLabModel", name := "hit", desc := "(II)V" } : Jvm.MethodName)) ∈ lw_g := List.mem_filter.mpr ⟨List.mem_append_right _ (List.mem_of_getElem? (i := 635) (by decide +kernel)), by decide +kernel⟩
theorem tw_637 : (Jvm.Cond.instanceMethod ({ cls := "MotionLabModel", name := "hit", desc := "(II)V" } : Jvm.MethodName)) ∈ lw_g := List.mem_filter.mpr ⟨List.mem_append_right _ (List.mem_of_getElem? (i := 637) (by decide +kernel)), by decide +kernel⟩
theorem tw_638 : (Jvm.Cond.code ({ cls := "MotionLabModel", name := "hit", desc := "(II)V" } : Jvm.MethodName) prog_6_method_42_code (19 : Nat) (Option.none : Option Jvm.ClassFile.FieldType)) ∈ lw_g := List.mem_filter.mpr ⟨List.mem_append_right _ (List.mem_of_getElem? (i := 638) (by decide +kernel)), by decide +kernel⟩
theorem tw_643 : (Jvm.Cond.methodLink "MotionLabModel" (247 : Nat) ({ cls := "MotionLabModel", name := "number", desc := "(II)J" } : Jvm.MethodName)) ∈ lw_g := List.mem_filter.mpr ⟨List.mem_append_right _ (List.mem_of_getElem? (i := 643) (by decide +kernel)), by decide +kernel⟩
theorem tw_645 : (Jvm.Cond.instanceMethod ({ cls := "MotionLabModel", name := "number", desc := "(II)J" } : Jvm.MethodName)) ∈ lw_g := List.mem_filter.mpr ⟨List.mem_append_right _ (List.mem_of_getElem? (i := 645) (by decide +kernel)), by decide +kernel⟩
theorem tw_646 : (Jvm.Cond.code ({ cls := "MotionLabModel", name := "number", desc := "(II)J" } : Jvm.MethodName) prog_6_method_45_code (3 : Nat) (Option.some Jvm.ClassFile.FieldType.long)) ∈ lw_g := List.mem_filter.mpr ⟨List.mem_append_right _ (List.mem_of_getElem? (i := 646) (by decide +kernel)), by decide +kernel⟩
theorem tw_647 : (Jvm.Cond.methodLink "MotionLabModel" (251 : Nat) ({ cls := "MotionLabModel", name := "told", desc := "(J)J" } : Jvm.MethodName)) ∈ lw_g := List.mem_filter.mpr ⟨List.mem_append_right _ (List.mem_of_getElem? (i := 647) (by decide +kernel)), by decide +kernel⟩
theorem tw_648 : (Jvm.Cond.static ({ cls := "MotionLabModel", name := "told", desc := "(J)J" } : Jvm.MethodName)) ∈ lw_g := List.mem_filter.mpr ⟨List.mem_append_right _ (List.mem_of_getElem? (i := 648) (by decide +kernel)), by decide +kernel⟩
theorem tw_649 : (Jvm.Cond.code ({ cls := "MotionLabModel", name := "told", desc := "(J)J" } : Jvm.MethodName) prog_6_method_25_code (2 : Nat) (Option.some Jvm.ClassFile.FieldType.long)) ∈ lw_g := List.mem_filter.mpr ⟨List.mem_append_right _ (List.mem_of_getElem? (i := 649) (by decide +kernel)), by decide +kernel⟩
theorem tw_662 : (Jvm.Cond.methodLink "MotionLabModel" (261 : Nat) ({ cls := "MotionLabModel", name := "reckoned", desc := "(IJJ)J" } : Jvm.MethodName)) ∈ lw_g := List.mem_filter.mpr ⟨List.mem_append_right _ (List.mem_of_getElem? (i := 662) (by decide +kernel)), by decide +kernel⟩
theorem tw_663 : (Jvm.Cond.static ({ cls := "MotionLabModel", name := "reckoned", desc := "(IJJ)J" } : Jvm.MethodName)) ∈ lw_g := List.mem_filter.mpr ⟨List.mem_append_right _ (List.mem_of_getElem? (i := 663) (by decide +kernel)), by decide +kernel⟩
theorem tw_664 : (Jvm.Cond.code ({ cls := "MotionLabModel", name := "reckoned", desc := "(IJJ)J" } : Jvm.MethodName) prog_6_method_50_code (12 : Nat) (Option.some Jvm.ClassFile.FieldType.long)) ∈ lw_g := List.mem_filter.mpr ⟨List.mem_append_right _ (List.mem_of_getElem? (i := 664) (by decide +kernel)), by decide +kernel⟩
theorem tw_675 : (Jvm.Cond.constantLong "MotionLabModel" (265 : Nat) (-9223372036854775808 : Int64)) ∈ lw_g := List.mem_filter.mpr ⟨List.mem_append_right _ (List.mem_of_getElem? (i := 675) (by decide +kernel)), by decide +kernel⟩
theorem tw_676 : (Jvm.Cond.methodLink "MotionLabModel" (267 : Nat) ({ cls := "java/lang/Math", name := "abs", desc := "(J)J" } : Jvm.MethodName)) ∈ lw_g := List.mem_filter.mpr ⟨List.mem_append_right _ (List.mem_of_getElem? (i := 676) (by decide +kernel)), by decide +kernel⟩
theorem tw_681 : (Jvm.Cond.constantLong "MotionLabModel" (270 : Nat) (9223372036854775807 : Int64)) ∈ lw_g := List.mem_filter.mpr ⟨List.mem_append_right _ (List.mem_of_getElem? (i := 681) (by decide +kernel)), by decide +kernel⟩
theorem tw_682 : (Jvm.Cond.methodLink "MotionLabModel" (272 : Nat) ({ cls := "MotionLabModel", name := "cutTo", desc := "(JJJ)J" } : Jvm.MethodName)) ∈ lw_g := List.mem_filter.mpr ⟨List.mem_append_right _ (List.mem_of_getElem? (i := 682) (by decide +kernel)), by decide +kernel⟩
theorem tw_683 : (Jvm.Cond.static ({ cls := "MotionLabModel", name := "cutTo", desc := "(JJJ)J" } : Jvm.MethodName)) ∈ lw_g := List.mem_filter.mpr ⟨List.mem_append_right _ (List.mem_of_getElem? (i := 683) (by decide +kernel)), by decide +kernel⟩
theorem tw_684 : (Jvm.Cond.code ({ cls := "MotionLabModel", name := "cutTo", desc := "(JJJ)J" } : Jvm.MethodName) prog_6_method_53_code (14 : Nat) (Option.some Jvm.ClassFile.FieldType.long)) ∈ lw_g := List.mem_filter.mpr ⟨List.mem_append_right _ (List.mem_of_getElem? (i := 684) (by decide +kernel)), by decide +kernel⟩
theorem tw_685 : (Jvm.Cond.constantLong "MotionLabModel" (278 : Nat) (-2147483648 : Int64)) ∈ lw_g := List.mem_filter.mpr ⟨List.mem_append_right _ (List.mem_of_getElem? (i := 685) (by decide +kernel)), by decide +kernel⟩
theorem tw_686 : (Jvm.Cond.constantLong "MotionLabModel" (280 : Nat) (2147483647 : Int64)) ∈ lw_g := List.mem_filter.mpr ⟨List.mem_append_right _ (List.mem_of_getElem? (i := 686) (by decide +kernel)), by decide +kernel⟩
theorem tw_695 : (Jvm.Cond.constantLong "MotionLabModel" (282 : Nat) (4602678819172646912 : Int64)) ∈ lw_g := List.mem_filter.mpr ⟨List.mem_append_right _ (List.mem_of_getElem? (i := 695) (by decide +kernel)), by decide +kernel⟩
theorem tw_700 : (Jvm.Cond.constantLong "MotionLabModel" (284 : Nat) (4607182418800017408 : Int64)) ∈ lw_g := List.mem_filter.mpr ⟨List.mem_append_right _ (List.mem_of_getElem? (i := 700) (by decide +kernel)), by decide +kernel⟩
theorem tp_0 : Cond.selects "MotionLab$Plane" ⟨"MotionLab$Plane", "pullByField", "(I)V"⟩ ⟨"MotionLab$Plane", "pullByField", "(I)V"⟩ ∈ lw_g := List.mem_filter.mpr ⟨List.mem_append_left _ (List.mem_of_getElem? (i := 0) (by decide +kernel)), by decide +kernel⟩
theorem tp_1 : Cond.selects "MotionLab$Plane" ⟨"MotionLab$Plane", "pullBySpring", "(I)V"⟩ ⟨"MotionLab$Plane", "pullBySpring", "(I)V"⟩ ∈ lw_g := List.mem_filter.mpr ⟨List.mem_append_left _ (List.mem_of_getElem? (i := 1) (by decide +kernel)), by decide +kernel⟩
theorem tp_2 : Cond.selects "MotionLab$Plane" ⟨"MotionLab$Plane", "move", "(I)V"⟩ ⟨"MotionLab$Plane", "move", "(I)V"⟩ ∈ lw_g := List.mem_filter.mpr ⟨List.mem_append_left _ (List.mem_of_getElem? (i := 2) (by decide +kernel)), by decide +kernel⟩
theorem tp_3 : Cond.selects "MotionLab$Plane" ⟨"MotionLab$Plane", "afterDt", "(JJ)J"⟩ ⟨"MotionLab$Plane", "afterDt", "(JJ)J"⟩ ∈ lw_g := List.mem_filter.mpr ⟨List.mem_append_left _ (List.mem_of_getElem? (i := 3) (by decide +kernel)), by decide +kernel⟩
theorem tp_4 : Cond.selects "MotionLab$Plane" ⟨"MotionLab$Plane", "keepInside", "(II)V"⟩ ⟨"MotionLab$Plane", "keepInside", "(II)V"⟩ ∈ lw_g := List.mem_filter.mpr ⟨List.mem_append_left _ (List.mem_of_getElem? (i := 4) (by decide +kernel)), by decide +kernel⟩
theorem tp_5 : Cond.selects "MotionLab$Plane" ⟨"MotionLab$Plane", "collide", "(II)V"⟩ ⟨"MotionLab$Plane", "collide", "(II)V"⟩ ∈ lw_g := List.mem_filter.mpr ⟨List.mem_append_left _ (List.mem_of_getElem? (i := 5) (by decide +kernel)), by decide +kernel⟩
theorem tp_6 : Cond.selects "MotionLab$Plane" ⟨"MotionLab$Plane", "energyOfMotion", "(I)J"⟩ ⟨"MotionLab$Plane", "energyOfMotion", "(I)J"⟩ ∈ lw_g := List.mem_filter.mpr ⟨List.mem_append_left _ (List.mem_of_getElem? (i := 6) (by decide +kernel)), by decide +kernel⟩
theorem tp_7 : Cond.selects "MotionLab$Plane" ⟨"MotionLab$Plane", "energyOfPlace", "(I)J"⟩ ⟨"MotionLab$Plane", "energyOfPlace", "(I)J"⟩ ∈ lw_g := List.mem_filter.mpr ⟨List.mem_append_left _ (List.mem_of_getElem? (i := 7) (by decide +kernel)), by decide +kernel⟩
theorem tp_8 : Cond.selects "MotionLab$Plane" ⟨"MotionLab$Plane", "energyOfSpring", "(I)J"⟩ ⟨"MotionLab$Plane", "energyOfSpring", "(I)J"⟩ ∈ lw_g := List.mem_filter.mpr ⟨List.mem_append_left _ (List.mem_of_getElem? (i := 8) (by decide +kernel)), by decide +kernel⟩
theorem tp_9 : Cond.selects "MotionLabModel" ⟨"MotionLabModel", "once", "()V"⟩ ⟨"MotionLabModel", "once", "()V"⟩ ∈ lw_g := List.mem_filter.mpr ⟨List.mem_append_left _ (List.mem_of_getElem? (i := 9) (by decide +kernel)), by decide +kernel⟩
theorem tp_10 : Cond.selects "MotionLabModel" ⟨"MotionLabModel", "pull", "(I)V"⟩ ⟨"MotionLabModel", "pull", "(I)V"⟩ ∈ lw_g := List.mem_filter.mpr ⟨List.mem_append_left _ (List.mem_of_getElem? (i := 10) (by decide +kernel)), by decide +kernel⟩
theorem tp_11 : Cond.selects "MotionLabModel" ⟨"MotionLabModel", "distance", "(I)J"⟩ ⟨"MotionLabModel", "distance", "(I)J"⟩ ∈ lw_g := List.mem_filter.mpr ⟨List.mem_append_left _ (List.mem_of_getElem? (i := 11) (by decide +kernel)), by decide +kernel⟩
theorem tp_12 : Cond.selects "MotionLabModel" ⟨"MotionLabModel", "go", "([J[J[JI)V"⟩ ⟨"MotionLabModel", "go", "([J[J[JI)V"⟩ ∈ lw_g := List.mem_filter.mpr ⟨List.mem_append_left _ (List.mem_of_getElem? (i := 12) (by decide +kernel)), by decide +kernel⟩
theorem tp_13 : Cond.selects "MotionLabModel" ⟨"MotionLabModel", "hit", "(II)V"⟩ ⟨"MotionLabModel", "hit", "(II)V"⟩ ∈ lw_g := List.mem_filter.mpr ⟨List.mem_append_left _ (List.mem_of_getElem? (i := 13) (by decide +kernel)), by decide +kernel⟩
theorem tp_14 : Cond.selects "MotionLabModel" ⟨"MotionLabModel", "number", "(II)J"⟩ ⟨"MotionLabModel", "number", "(II)J"⟩ ∈ lw_g := List.mem_filter.mpr ⟨List.mem_append_left _ (List.mem_of_getElem? (i := 14) (by decide +kernel)), by decide +kernel⟩
/-! OUR OWN ROWS: a method over one world of cells (all its cells stay where they are): reading, writing, calls; one hypothesis G for the world -/
abbrev hG (D : va_G) (cl : List vw_C) (A : Nat → Prop) (H0 : Heap) (ws : va_W) (H : Heap) (locs : List Loc) : Prop := va_P D cl ws H ∧ va_D A ws ∧ va_S A H0 H locs
abbrev hPr (D : va_G) (cl : List vw_C) (tys : List (ClassId × FieldType)) (E : State → Prop) (W0 : va_W) (sz : Nat) (U : State) : Prop := U.heap.size = sz ∧ va_P D cl W0 U.heap ∧ va_K D cl tys U ∧ va_D (fun _ => True) W0 ∧ E U
abbrev hBk (D : va_G) (cl : List vw_C) (tys : List (ClassId × FieldType)) (W0 : va_W) (sz : Nat) (W1 : va_W) (t : State) : Prop := va_P D cl W1 t.heap ∧ va_K D cl tys t ∧ va_D (va_A W0 sz) W1
abbrev hQv (D : va_G) (cl : List vw_C) (tys : List (ClassId × FieldType)) (W0 : va_W) (sz : Nat) (w1 : va_W) : Array Value → State → Outcome → State → Prop := va_Qv (fun u => u = w1) (hBk D cl tys W0 sz) (va_A W0 sz)
abbrev hQi (D : va_G) (cl : List vw_C) (tys : List (ClassId × FieldType)) (W0 : va_W) (sz : Nat) (r0 : Int32) (w1 : va_W) : Array Value → State → Outcome → State → Prop := va_Qi (fun r u => r = r0 ∧ u = w1) (hBk D cl tys W0 sz) (va_A W0 sz)
abbrev hQl (D : va_G) (cl : List vw_C) (tys : List (ClassId × FieldType)) (W0 : va_W) (sz : Nat) (r0 : Int64) (w1 : va_W) : Array Value → State → Outcome → State → Prop := va_Ql (fun r u => r = r0 ∧ u = w1) (hBk D cl tys W0 sz) (va_A W0 sz)
abbrev hMv (l : Launch) (y : MethodName) (ws : List Cond) (rm : Room) (av : List Value) (D : va_G) (cl : List vw_C) (tys : List (ClassId × FieldType)) (E : State → Prop) (W0 : va_W) (sz : Nat) (w1 : va_W) : Prop := Met l y ws rm (va_Pc av (hPr D cl tys E W0 sz)) (hQv D cl tys W0 sz w1) 0 0 (va_A W0 sz)
abbrev hMi (l : Launch) (y : MethodName) (ws : List Cond) (rm : Room) (av : List Value) (D : va_G) (cl : List vw_C) (tys : List (ClassId × FieldType)) (E : State → Prop) (W0 : va_W) (sz : Nat) (r0 : Int32) (w1 : va_W) : Prop := Met l y ws rm (va_Pc av (hPr D cl tys E W0 sz)) (hQi D cl tys W0 sz r0 w1) 0 0 (va_A W0 sz)
abbrev hMl (l : Launch) (y : MethodName) (ws : List Cond) (rm : Room) (av : List Value) (D : va_G) (cl : List vw_C) (tys : List (ClassId × FieldType)) (E : State → Prop) (W0 : va_W) (sz : Nat) (r0 : Int64) (w1 : va_W) : Prop := Met l y ws rm (va_Pc av (hPr D cl tys E W0 sz)) (hQl D cl tys W0 sz r0 w1) 0 0 (va_A W0 sz)
abbrev hEx (s : State) (H : Heap) (E : State → Prop) : Prop := (∀ (a : Array Value) (U : State) (g : JFrame) (mk : MethodId), E U → E (U.calling g mk a)) ∧ ∀ U : State, U.heap = H → s.WarmedH U.vm → E U
section HG
variable {p : Program} {l : Launch} {e : Env} {R : Room} {s : State} {m : MethodId} {args : Array Value} {below : List Frame} {meth : Method} {c : Code} {H : Heap} {locs : List Loc} {cells slots : Nat} {Q : State → Prop}
variable {cc : ByteArray} {pc : Nat} {ls : Array Slot} {rest st0 : List Value} {D : va_G} {cl : List vw_C} {A : Nat → Prop} {a : Nat} {tys : List (ClassId × FieldType)} {ws : va_W} {H0 : Heap}
theorem hg_free (G : hG D cl A H0 ws H locs) (hA : ∀ q, H0.size ≤ q → A q) : ∀ q, va_A ws H.size q → A q := fun q h => by
  rcases h with ⟨k, e, h⟩ | h
  · exact G.2.1.2 k _ h
  · exact hA q (Nat.le_trans G.2.2.1 h)
theorem hg_last (hexec : p.tables.exec = Jvm.exec) (hb : c.code = cc) (hK : va_K D cl tys s) (G : hG D cl A H0 ws H locs) (q0 t0 : Nat) {cA : ClassId} {n : Nat} {f : Nat → Int64} (ha : ws[q0]? = some (a, .inl (cA, n, .inr (.inl f)))) (ht : tys[t0]? = some (cA, .long)) {i : Int32} {x : Int64} (hin : vp_in i n) (hdg : decode cc pc = .ok (.lastore, 1)) (ws' : va_W) (hw : ws.set q0 (a, .inl (cA, n, .inr (.inl (vp_updL f i.toNatClampNeg x)))) = ws')
    (kk : ∀ (H1 : Heap) (locs1 : List Loc), hG D cl A H0 ws' H1 locs1 → W p l e R s m args below meth c H1 locs1 cells slots Q (F0 m (pc + 1) ls rest)) : W p l e R s m args below meth c H locs cells slots Q (F0 m pc ls (.long x :: .int i :: .ref a :: rest)) := by
  subst hw
  exact va_last hexec hb hK G.1 G.2.1 G.2.2 q0 t0 ha ht hin hdg (fun H1 l1 a b c => kk H1 l1 ⟨a, b, c⟩)
theorem hg_iast (hexec : p.tables.exec = Jvm.exec) (hb : c.code = cc) (hK : va_K D cl tys s) (G : hG D cl A H0 ws H locs) (q0 t0 : Nat) {cA : ClassId} {n : Nat} {f : Nat → Int32} (ha : ws[q0]? = some (a, .inl (cA, n, .inl f))) (ht : tys[t0]? = some (cA, .int)) {i : Int32} {x : Int32} (hin : vp_in i n) (hdg : decode cc pc = .ok (.iastore, 1)) (ws' : va_W) (hw : ws.set q0 (a, .inl (cA, n, .inl (upd f i.toNatClampNeg x))) = ws')
    (kk : ∀ (H1 : Heap) (locs1 : List Loc), hG D cl A H0 ws' H1 locs1 → W p l e R s m args below meth c H1 locs1 cells slots Q (F0 m (pc + 1) ls rest)) : W p l e R s m args below meth c H locs cells slots Q (F0 m pc ls (.int x :: .int i :: .ref a :: rest)) := by
  subst hw
  exact va_iast hexec hb hK G.1 G.2.1 G.2.2 q0 t0 ha ht hin hdg (fun H1 l1 a b c => kk H1 l1 ⟨a, b, c⟩)
theorem hg_put (hexec : p.tables.exec = Jvm.exec) (hb : c.code = cc) {own C : String} {T : u_T} {N ci index : Nat} {Ts : List Cond} (hts : ∀ w ∈ Ts, w.before args s = true) (hin : ∀ w ∈ u_ws C T N, w ∈ Ts) (ty0 : Nat → FieldType) (hty : ∀ k, k < N → parseFieldDescriptor (T k).2.2.1 = some (ty0 k)) (hnm : ∀ a, a < N → ∀ b, b < N → a ≠ b → (T a).2.1 ≠ (T b).2.1) (hown : s.vm.findClass own = some m.cls) (hK : va_K D cl tys s) (G : hG D cl A H0 ws H locs) (q0 : Nat) {fs : List Value} (he : ws[q0]? = some (a, .inr (ci, fs))) (hc : cl[ci]? = some (C, T, N)) (k : Nat) (hk : k < N) (hlink : (Cond.fieldLink own index (T k).1 (T k).2.1 (T k).2.2.1).before args s = true) (hfin : (T k).2.2.2 = false) {ty : FieldType} {v : Value} (hd : parseFieldDescriptor (T k).2.2.1 = some ty) (hn : narrow ty v = v) (hfit : fits ty v = true) (hl : k < fs.length)
    (hdg : decode cc pc = .ok (.putfield index, 3)) (ws' : va_W) (hw : ws.set q0 (a, .inr (ci, fs.set k v)) = ws') (kk : ∀ (H1 : Heap) (locs1 : List Loc), hG D cl A H0 ws' H1 locs1 → W p l e R s m args below meth c H1 locs1 cells slots Q (F0 m (pc + 3) ls rest)) : W p l e R s m args below meth c H locs cells slots Q (F0 m pc ls (v :: .ref a :: rest)) := by
  subst hw
  exact va_put hexec hb hts hin ty0 hty hnm hown hK G.1 G.2.1 G.2.2 q0 he hc k hk hlink (fun _ h => h) hfin hd hn hfit hl hdg (fun H1 l1 a b c => kk H1 l1 ⟨a, b, c⟩)
variable {Ts wsC : List Cond} {own C : String} {y : MethodName} {bytes : ByteArray} {maxL nL n index : Nat} {ret : Option FieldType} {rm : Room} {As : List Value} {E : State → Prop} {w1 : va_W} {b : Nat}
theorem hg_pre {As' : List Value} (hK : va_K D cl tys s) (G : hG D cl A H0 ws H locs) (hE : hEx s H E) : PreS s H (va_Pc As' (hPr D cl tys E ws H.size)) As' :=
  ⟨fun a U g mk q => by obtain ⟨q0, q1, qP, qK, qD, qE⟩ := q; exact ⟨q0, q1, qP, va_K.moved (u := U) (U := U.calling g mk a) (Vm.Alike.refl U.vm) qK, qD, hE.1 a U g mk qE⟩,
   fun U hU hW => ⟨rfl, by rw [hU], by rw [hU]; exact G.1, va_K.moved hW.alike hK, G.2.1.weaken (fun _ _ _ _ => trivial), hE.2 U hU hW⟩⟩
theorem hg_cv (S0 : CallFix p m c cc nL s args Ts own) (hM : hMv l y wsC rm (.ref b :: As) D cl tys E ws H.size w1) (cw : CallW R s args own C index y bytes maxL ret wsC rm 0 0 n) (hK : va_K D cl tys s) (G : hG D cl A H0 ws H locs) (hA : ∀ q, H0.size ≤ q → A q) (hE : hEx s H E)
    (ci q0 : Nat) {T : u_T} {N : Nat} {fs : List Value} (hc : cl[ci]? = some (C, T, N)) (he : ws[q0]? = some (b, .inr (ci, fs))) (hn : As.length = n) (hsize : ls.size = nL) (hstack : st0 = As.reverse ++ .ref b :: rest) (hW : (rest.map fun v => v.category).sum ≤ 8) (hf : cells ≤ R.cells ∧ slots ≤ R.slots) (hdg : decode cc pc = .ok (.invokevirtual index, 3))
    (kk : ∀ (H1 : Heap) (locs1 : List Loc), hG D cl A H0 w1 H1 locs1 → W p l e R s m args below meth c H1 locs1 cells slots Q (F0 m (pc + 3) ls rest)) : W p l e R s m args below meth c H locs cells slots Q (F0 m pc ls st0) := by
  have hF := hg_free G hA
  have hp := hg_pre (As' := .ref b :: As) hK G hE
  refine va_callv (va_runV (g := F0 m pc ls st0) S0 hM cw ⟨hp.1, va_recv hK G.1 hc he, hp.2⟩ rfl hn hsize hstack (lv_room hW) hdg hf) G.2.2 (fun q _ h => hF q h) hF (fun u t H1 locs1 ht hvm hu hB hz hk hS => ?_)
  subst hu
  obtain ⟨hP1, hK1, hD1⟩ := hB
  rw [ht] at hP1
  exact kk H1 locs1 ⟨hP1, ⟨hD1.1, fun k q h => hF _ (hD1.2 k q h)⟩, hS⟩
theorem hg_ci {r0 : Int32} (S0 : CallFix p m c cc nL s args Ts own) (hM : hMi l y wsC rm (.ref b :: As) D cl tys E ws H.size r0 w1) (cw : CallW R s args own C index y bytes maxL ret wsC rm 0 0 n) (hK : va_K D cl tys s) (G : hG D cl A H0 ws H locs) (hA : ∀ q, H0.size ≤ q → A q) (hE : hEx s H E)
    (ci q0 : Nat) {T : u_T} {N : Nat} {fs : List Value} (hc : cl[ci]? = some (C, T, N)) (he : ws[q0]? = some (b, .inr (ci, fs))) (hn : As.length = n) (hsize : ls.size = nL) (hstack : st0 = As.reverse ++ .ref b :: rest) (hW : (rest.map fun v => v.category).sum ≤ 8) (hf : cells ≤ R.cells ∧ slots ≤ R.slots) (hdg : decode cc pc = .ok (.invokevirtual index, 3))
    (kk : ∀ (H1 : Heap) (locs1 : List Loc), hG D cl A H0 w1 H1 locs1 → W p l e R s m args below meth c H1 locs1 cells slots Q (F0 m (pc + 3) ls (.int r0 :: rest))) : W p l e R s m args below meth c H locs cells slots Q (F0 m pc ls st0) := by
  have hF := hg_free G hA
  have hp := hg_pre (As' := .ref b :: As) hK G hE
  refine va_calli (va_runV (g := F0 m pc ls st0) S0 hM cw ⟨hp.1, va_recv hK G.1 hc he, hp.2⟩ rfl hn hsize hstack (lv_room hW) hdg hf) G.2.2 (fun q _ h => hF q h) hF (fun r u t H1 locs1 ht hvm hu hB hz hk hS => ?_)
  obtain ⟨hr, hu⟩ := hu
  subst hr
  subst hu
  obtain ⟨hP1, hK1, hD1⟩ := hB
  rw [ht] at hP1
  exact kk H1 locs1 ⟨hP1, ⟨hD1.1, fun k q h => hF _ (hD1.2 k q h)⟩, hS⟩
theorem hg_cl {r0 : Int64} (S0 : CallFix p m c cc nL s args Ts own) (hM : hMl l y wsC rm (.ref b :: As) D cl tys E ws H.size r0 w1) (cw : CallW R s args own C index y bytes maxL ret wsC rm 0 0 n) (hK : va_K D cl tys s) (G : hG D cl A H0 ws H locs) (hA : ∀ q, H0.size ≤ q → A q) (hE : hEx s H E)
    (ci q0 : Nat) {T : u_T} {N : Nat} {fs : List Value} (hc : cl[ci]? = some (C, T, N)) (he : ws[q0]? = some (b, .inr (ci, fs))) (hn : As.length = n) (hsize : ls.size = nL) (hstack : st0 = As.reverse ++ .ref b :: rest) (hW : (rest.map fun v => v.category).sum ≤ 8) (hf : cells ≤ R.cells ∧ slots ≤ R.slots) (hdg : decode cc pc = .ok (.invokevirtual index, 3))
    (kk : ∀ (H1 : Heap) (locs1 : List Loc), hG D cl A H0 w1 H1 locs1 → W p l e R s m args below meth c H1 locs1 cells slots Q (F0 m (pc + 3) ls (.long r0 :: rest))) : W p l e R s m args below meth c H locs cells slots Q (F0 m pc ls st0) := by
  have hF := hg_free G hA
  have hp := hg_pre (As' := .ref b :: As) hK G hE
  refine va_calll (va_runV (g := F0 m pc ls st0) S0 hM cw ⟨hp.1, va_recv hK G.1 hc he, hp.2⟩ rfl hn hsize hstack (lv_room hW) hdg hf) G.2.2 (fun q _ h => hF q h) hF (fun r u t H1 locs1 ht hvm hu hB hz hk hS => ?_)
  obtain ⟨hr, hu⟩ := hu
  subst hr
  subst hu
  obtain ⟨hP1, hK1, hD1⟩ := hB
  rw [ht] at hP1
  exact kk H1 locs1 ⟨hP1, ⟨hD1.1, fun k q h => hF _ (hD1.2 k q h)⟩, hS⟩
-- the ends
theorem hg_vret {sz : Nat} {W0 : va_W} (hx : p.tables.exec = Jvm.exec) (hb : c.code = cc) (hr : meth.sig.returnType = none) (hlocks : meth.locks = false) (hK : va_K D cl tys s) (hAe : va_A W0 sz = A) (G : hG D cl A s.heap ws H locs) (hw : ws = w1) (hdg : decode cc pc = .ok (.return_, 1)) :
    W p l e R s m args below meth c H locs 0 0 (MQ below (hQv D cl tys W0 sz w1) args s 0 0 A) (F0 m pc ls []) := by
  subst hw hAe
  exact W.vret hx hb hr (fun t ht hW => ⟨⟨ws, rfl, rfl, by rw [ht]; exact G.1, va_K.moved hW.alike hK, G.2.1⟩, G.2.2.F ht⟩) G.2.2.2.2 hdg hlocks
theorem hg_iret {sz : Nat} {W0 : va_W} {v r0 : Int32} (hx : p.tables.exec = Jvm.exec) (hb : c.code = cc) (hr : meth.sig.returnType = some .int) (hlocks : meth.locks = false) (hK : va_K D cl tys s) (hAe : va_A W0 sz = A) (G : hG D cl A s.heap ws H locs) (hw : v = r0 ∧ ws = w1) (hdg : decode cc pc = .ok (.ireturn, 1)) :
    W p l e R s m args below meth c H locs 0 0 (MQ below (hQi D cl tys W0 sz r0 w1) args s 0 0 A) (F0 m pc ls [.int v]) := by
  obtain ⟨hv, hw⟩ := hw
  subst hv hw hAe
  exact W.iret hx hb hr (fun t ht hW => ⟨⟨v, ws, rfl, ⟨rfl, rfl⟩, by rw [ht]; exact G.1, va_K.moved hW.alike hK, G.2.1⟩, G.2.2.F ht⟩) G.2.2.2.2 hdg hlocks
theorem hg_zret {sz : Nat} {W0 : va_W} {v r0 : Int32} (hx : p.tables.exec = Jvm.exec) (hb : c.code = cc) (hr : meth.sig.returnType = some .boolean) (hn : narrow .boolean (.int v) = .int v) (hlocks : meth.locks = false) (hK : va_K D cl tys s) (hAe : va_A W0 sz = A) (G : hG D cl A s.heap ws H locs) (hw : v = r0 ∧ ws = w1) (hdg : decode cc pc = .ok (.ireturn, 1)) :
    W p l e R s m args below meth c H locs 0 0 (MQ below (hQi D cl tys W0 sz r0 w1) args s 0 0 A) (F0 m pc ls [.int v]) := by
  obtain ⟨hv, hw⟩ := hw
  subst hv hw hAe
  exact W.zret hx hb hr hn (fun t ht hW => ⟨⟨v, ws, rfl, ⟨rfl, rfl⟩, by rw [ht]; exact G.1, va_K.moved hW.alike hK, G.2.1⟩, G.2.2.F ht⟩) G.2.2.2.2 hdg hlocks
theorem hg_lret {sz : Nat} {W0 : va_W} {v r0 : Int64} (hx : p.tables.exec = Jvm.exec) (hb : c.code = cc) (hr : meth.sig.returnType = some .long) (hlocks : meth.locks = false) (hK : va_K D cl tys s) (hAe : va_A W0 sz = A) (G : hG D cl A s.heap ws H locs) (hw : v = r0 ∧ ws = w1) (hdg : decode cc pc = .ok (.lreturn, 1)) :
    W p l e R s m args below meth c H locs 0 0 (MQ below (hQl D cl tys W0 sz r0 w1) args s 0 0 A) (F0 m pc ls [.long v]) := by
  obtain ⟨hv, hw⟩ := hw
  subst hv hw hAe
  exact W.lret hx hb hr (fun t ht hW => ⟨⟨v, ws, rfl, ⟨rfl, rfl⟩, by rw [ht]; exact G.1, va_K.moved hW.alike hK, G.2.1⟩, G.2.2.F ht⟩) G.2.2.2.2 hdg hlocks
end HG
theorem hx_T (s : State) (H : Heap) : hEx s H (fun _ => True) := ⟨fun _ _ _ _ _ => trivial, fun _ _ _ => trivial⟩
-- the reference's tables lie apart from the cells that are written
abbrev RTA (t0 t1 t2 : Nat) (A : Nat → Prop) (U : State) (H : Heap) : Prop :=
  (va_Z "MotionLabModel" "PLACES" "[I" (.ref t0) A U H ∧ va_T .int t0 2 (fun j => .int (if j = 0 then 53 else 24)) A U H) ∧
  (va_Z "MotionLabModel" "LEAST" "[I" (.ref t1) A U H ∧ va_T .int t1 2 (fun j => .int (if j = 0 then (-1074) else (-149))) A U H) ∧
  (va_Z "MotionLabModel" "GREATEST" "[I" (.ref t2) A U H ∧ va_T .int t2 2 (fun j => .int (if j = 0 then 971 else 104)) A U H)
theorem RTA.moved {t0 t1 t2 : Nat} {A : Nat → Prop} {u U : State} {H : Heap} (hvm : u.vm.Alike U.vm) (h : RTA t0 t1 t2 A u H) : RTA t0 t1 t2 A U H :=
  ⟨⟨va_Z.moved hvm h.1.1, va_T.moved hvm h.1.2⟩, ⟨va_Z.moved hvm h.2.1.1, va_T.moved hvm h.2.1.2⟩, ⟨va_Z.moved hvm h.2.2.1, va_T.moved hvm h.2.2.2⟩⟩
theorem RTA.kept {t0 t1 t2 : Nat} {A : Nat → Prop} {U : State} {H H1 : Heap} (h : RTA t0 t1 t2 A U H) (hq : ∀ a : Nat, a < H.size → ¬ A a → H1[a]? = H[a]?) : RTA t0 t1 t2 A U H1 :=
  ⟨⟨va_Z.kept h.1.1 hq, va_T.kept h.1.2 hq⟩, ⟨va_Z.kept h.2.1.1 hq, va_T.kept h.2.1.2 hq⟩, ⟨va_Z.kept h.2.2.1 hq, va_T.kept h.2.2.2 hq⟩⟩
theorem RTA.narrow {t0 t1 t2 : Nat} {A B : Nat → Prop} {U : State} {H : Heap} (h : RTA t0 t1 t2 A U H) (hq : ∀ q, B q → A q) : RTA t0 t1 t2 B U H :=
  ⟨⟨va_Z.narrow h.1.1 hq, va_T.narrow h.1.2 hq⟩, ⟨va_Z.narrow h.2.1.1 hq, va_T.narrow h.2.1.2 hq⟩, ⟨va_Z.narrow h.2.2.1 hq, va_T.narrow h.2.2.2 hq⟩⟩
abbrev hE_M (t0 t1 t2 : Nat) (W0 : va_W) (sz : Nat) : State → Prop := fun U => RTA t0 t1 t2 (va_A W0 sz) U U.heap
theorem hx_M {t0 t1 t2 : Nat} {s : State} {H : Heap} {A : Nat → Prop} {D : va_G} {cl : List vw_C} {ws : va_W} {locs : List Loc} (hRT : RTA t0 t1 t2 A s s.heap) (G : hG D cl A s.heap ws H locs) (hA : ∀ q, s.heap.size ≤ q → A q) : hEx s H (hE_M t0 t1 t2 ws H.size) :=
  ⟨fun a U g mk q => RTA.moved (u := U) (U := U.calling g mk a) (Vm.Alike.refl U.vm) q,
   fun U hU hW => by
    show RTA t0 t1 t2 _ U U.heap
    rw [hU]
    exact RTA.moved hW.alike ((hRT.kept G.2.2.2.1).narrow (hg_free G hA))⟩
theorem hx_R {t0 t1 t2 : Nat} {s : State} {H : Heap} {A : Nat → Prop} {D : va_G} {cl : List vw_C} {ws : va_W} {locs : List Loc} (hRT : RTA t0 t1 t2 A s s.heap) (G : hG D cl A s.heap ws H locs) : RTH t0 t1 t2 s H :=
  (hRT.kept G.2.2.2.1).narrow (fun _ h => h.elim)
abbrev CS : Type := (Nat → Int64) × (Nat → Int64) × (Nat → Int64) × (Nat → Int32) × (Nat → Int64) × (Int32)
def sR (S : CS) : Nat → Int64 := S.1
def sF (S : CS) : Nat → Int64 := S.2.1
def sT (S : CS) : Nat → Int64 := S.2.2.1
def sB (S : CS) : Nat → Int32 := S.2.2.2.1
def sN (S : CS) : Nat → Int64 := S.2.2.2.2.1
def sC (S : CS) : Int32 := S.2.2.2.2.2
def u_sR (S : CS) (v : Nat → Int64) : CS := (v, S.2.1, S.2.2.1, S.2.2.2.1, S.2.2.2.2.1, S.2.2.2.2.2)
def u_sF (S : CS) (v : Nat → Int64) : CS := (S.1, v, S.2.2.1, S.2.2.2.1, S.2.2.2.2.1, S.2.2.2.2.2)
def u_sT (S : CS) (v : Nat → Int64) : CS := (S.1, S.2.1, v, S.2.2.2.1, S.2.2.2.2.1, S.2.2.2.2.2)
def u_sB (S : CS) (v : Nat → Int32) : CS := (S.1, S.2.1, S.2.2.1, v, S.2.2.2.2.1, S.2.2.2.2.2)
def u_sN (S : CS) (v : Nat → Int64) : CS := (S.1, S.2.1, S.2.2.1, S.2.2.2.1, v, S.2.2.2.2.2)
def u_sC (S : CS) (v : Int32) : CS := (S.1, S.2.1, S.2.2.1, S.2.2.2.1, S.2.2.2.2.1, v)
abbrev MS : Type := (Nat → Int64) × (Nat → Int64) × (Nat → Int64) × (Nat → Int64) × (Nat → Int64) × (Nat → Int64) × (Nat → Int64) × (Nat → Int64) × (Int64) × (Int64) × (Int64) × (Int64) × (Int64) × (Int64) × (Nat → Int32) × (Nat → Int32) × (Nat → Int64) × (Nat → Int64) × (Nat → Int64) × (Int32) × (Nat → Int64)
def m_x (S : MS) : Nat → Int64 := S.1
def m_y (S : MS) : Nat → Int64 := S.2.1
def m_u (S : MS) : Nat → Int64 := S.2.2.1
def m_v (S : MS) : Nat → Int64 := S.2.2.2.1
def m_m (S : MS) : Nat → Int64 := S.2.2.2.2.1
def m_r (S : MS) : Nat → Int64 := S.2.2.2.2.2.1
def m_fx (S : MS) : Nat → Int64 := S.2.2.2.2.2.2.1
def m_fy (S : MS) : Nat → Int64 := S.2.2.2.2.2.2.2.1
def m_gx (S : MS) : Int64 := S.2.2.2.2.2.2.2.2.1
def m_gy (S : MS) : Int64 := S.2.2.2.2.2.2.2.2.2.1
def m_drag (S : MS) : Int64 := S.2.2.2.2.2.2.2.2.2.2.1
def m_dt (S : MS) : Int64 := S.2.2.2.2.2.2.2.2.2.2.2.1
def m_wall (S : MS) : Int64 := S.2.2.2.2.2.2.2.2.2.2.2.2.1
def m_back (S : MS) : Int64 := S.2.2.2.2.2.2.2.2.2.2.2.2.2.1
def m_left (S : MS) : Nat → Int32 := S.2.2.2.2.2.2.2.2.2.2.2.2.2.2.1
def m_right (S : MS) : Nat → Int32 := S.2.2.2.2.2.2.2.2.2.2.2.2.2.2.2.1
def m_k (S : MS) : Nat → Int64 := S.2.2.2.2.2.2.2.2.2.2.2.2.2.2.2.2.1
def m_l (S : MS) : Nat → Int64 := S.2.2.2.2.2.2.2.2.2.2.2.2.2.2.2.2.2.1
def m_c (S : MS) : Nat → Int64 := S.2.2.2.2.2.2.2.2.2.2.2.2.2.2.2.2.2.2.1
def m_springs (S : MS) : Int32 := S.2.2.2.2.2.2.2.2.2.2.2.2.2.2.2.2.2.2.2.1
def m_store (S : MS) : Nat → Int64 := S.2.2.2.2.2.2.2.2.2.2.2.2.2.2.2.2.2.2.2.2
def u_m_x (S : MS) (v : Nat → Int64) : MS := (v, S.2.1, S.2.2.1, S.2.2.2.1, S.2.2.2.2.1, S.2.2.2.2.2.1, S.2.2.2.2.2.2.1, S.2.2.2.2.2.2.2.1, S.2.2.2.2.2.2.2.2.1, S.2.2.2.2.2.2.2.2.2.1, S.2.2.2.2.2.2.2.2.2.2.1, S.2.2.2.2.2.2.2.2.2.2.2.1, S.2.2.2.2.2.2.2.2.2.2.2.2.1, S.2.2.2.2.2.2.2.2.2.2.2.2.2.1, S.2.2.2.2.2.2.2.2.2.2.2.2.2.2.1, S.2.2.2.2.2.2.2.2.2.2.2.2.2.2.2.1, S.2.2.2.2.2.2.2.2.2.2.2.2.2.2.2.2.1, S.2.2.2.2.2.2.2.2.2.2.2.2.2.2.2.2.2.1, S.2.2.2.2.2.2.2.2.2.2.2.2.2.2.2.2.2.2.1, S.2.2.2.2.2.2.2.2.2.2.2.2.2.2.2.2.2.2.2.1, S.2.2.2.2.2.2.2.2.2.2.2.2.2.2.2.2.2.2.2.2)
def u_m_y (S : MS) (v : Nat → Int64) : MS := (S.1, v, S.2.2.1, S.2.2.2.1, S.2.2.2.2.1, S.2.2.2.2.2.1, S.2.2.2.2.2.2.1, S.2.2.2.2.2.2.2.1, S.2.2.2.2.2.2.2.2.1, S.2.2.2.2.2.2.2.2.2.1, S.2.2.2.2.2.2.2.2.2.2.1, S.2.2.2.2.2.2.2.2.2.2.2.1, S.2.2.2.2.2.2.2.2.2.2.2.2.1, S.2.2.2.2.2.2.2.2.2.2.2.2.2.1, S.2.2.2.2.2.2.2.2.2.2.2.2.2.2.1, S.2.2.2.2.2.2.2.2.2.2.2.2.2.2.2.1, S.2.2.2.2.2.2.2.2.2.2.2.2.2.2.2.2.1, S.2.2.2.2.2.2.2.2.2.2.2.2.2.2.2.2.2.1, S.2.2.2.2.2.2.2.2.2.2.2.2.2.2.2.2.2.2.1, S.2.2.2.2.2.2.2.2.2.2.2.2.2.2.2.2.2.2.2.1, S.2.2.2.2.2.2.2.2.2.2.2.2.2.2.2.2.2.2.2.2)
def u_m_u (S : MS) (v : Nat → Int64) : MS := (S.1, S.2.1, v, S.2.2.2.1, S.2.2.2.2.1, S.2.2.2.2.2.1, S.2.2.2.2.2.2.1, S.2.2.2.2.2.2.2.1, S.2.2.2.2.2.2.2.2.1, S.2.2.2.2.2.2.2.2.2.1, S.2.2.2.2.2.2.2.2.2.2.1, S.2.2.2.2.2.2.2.2.2.2.2.1, S.2.2.2.2.2.2.2.2.2.2.2.2.1, S.2.2.2.2.2.2.2.2.2.2.2.2.2.1, S.2.2.2.2.2.2.2.2.2.2.2.2.2.2.1, S.2.2.2.2.2.2.2.2.2.2.2.2.2.2.2.1, S.2.2.2.2.2.2.2.2.2.2.2.2.2.2.2.2.1, S.2.2.2.2.2.2.2.2.2.2.2.2.2.2.2.2.2.1, S.2.2.2.2.2.2.2.2.2.2.2.2.2.2.2.2.2.2.1, S.2.2.2.2.2.2.2.2.2.2.2.2.2.2.2.2.2.2.2.1, S.2.2.2.2.2.2.2.2.2.2.2.2.2.2.2.2.2.2.2.2)
def u_m_v (S : MS) (v : Nat → Int64) : MS := (S.1, S.2.1, S.2.2.1, v, S.2.2.2.2.1, S.2.2.2.2.2.1, S.2.2.2.2.2.2.1, S.2.2.2.2.2.2.2.1, S.2.2.2.2.2.2.2.2.1, S.2.2.2.2.2.2.2.2.2.1, S.2.2.2.2.2.2.2.2.2.2.1, S.2.2.2.2.2.2.2.2.2.2.2.1, S.2.2.2.2.2.2.2.2.2.2.2.2.1, S.2.2.2.2.2.2.2.2.2.2.2.2.2.1, S.2.2.2.2.2.2.2.2.2.2.2.2.2.2.1, S.2.2.2.2.2.2.2.2.2.2.2.2.2.2.2.1, S.2.2.2.2.2.2.2.2.2.2.2.2.2.2.2.2.1, S.2.2.2.2.2.2.2.2.2.2.2.2.2.2.2.2.2.1, S.2.2.2.2.2.2.2.2.2.2.2.2.2.2.2.2.2.2.1, S.2.2.2.2.2.2.2.2.2.2.2.2.2.2.2.2.2.2.2.1, S.2.2.2.2.2.2.2.2.2.2.2.2.2.2.2.2.2.2.2.2)
def u_m_m (S : MS) (v : Nat → Int64) : MS := (S.1, S.2.1, S.2.2.1, S.2.2.2.1, v, S.2.2.2.2.2.1, S.2.2.2.2.2.2.1, S.2.2.2.2.2.2.2.1, S.2.2.2.2.2.2.2.2.1, S.2.2.2.2.2.2.2.2.2.1, S.2.2.2.2.2.2.2.2.2.2.1, S.2.2.2.2.2.2.2.2.2.2.2.1, S.2.2.2.2.2.2.2.2.2.2.2.2.1, S.2.2.2.2.2.2.2.2.2.2.2.2.2.1, S.2.2.2.2.2.2.2.2.2.2.2.2.2.2.1, S.2.2.2.2.2.2.2.2.2.2.2.2.2.2.2.1, S.2.2.2.2.2.2.2.2.2.2.2.2.2.2.2.2.1, S.2.2.2.2.2.2.2.2.2.2.2.2.2.2.2.2.2.1, S.2.2.2.2.2.2.2.2.2.2.2.2.2.2.2.2.2.2.1, S.2.2.2.2.2.2.2.2.2.2.2.2.2.2.2.2.2.2.2.1, S.2.2.2.2.2.2.2.2.2.2.2.2.2.2.2.2.2.2.2.2)
def u_m_r (S : MS) (v : Nat → Int64) : MS := (S.1, S.2.1, S.2.2.1, S.2.2.2.1, S.2.2.2.2.1, v, S.2.2.2.2.2.2.1, S.2.2.2.2.2.2.2.1, S.2.2.2.2.2.2.2.2.1, S.2.2.2.2.2.2.2.2.2.1, S.2.2.2.2.2.2.2.2.2.2.1, S.2.2.2.2.2.2.2.2.2.2.2.1, S.2.2.2.2.2.2.2.2.2.2.2.2.1, S.2.2.2.2.2.2.2.2.2.2.2.2.2.1, S.2.2.2.2.2.2.2.2.2.2.2.2.2.2.1, S.2.2.2.2.2.2.2.2.2.2.2.2.2.2.2.1, S.2.2.2.2.2.2.2.2.2.2.2.2.2.2.2.2.1, S.2.2.2.2.2.2.2.2.2.2.2.2.2.2.2.2.2.1, S.2.2.2.2.2.2.2.2.2.2.2.2.2.2.2.2.2.2.1, S.2.2.2.2.2.2.2.2.2.2.2.2.2.2.2.2.2.2.2.1, S.2.2.2.2.2.2.2.2.2.2.2.2.2.2.2.2.2.2.2.2)
def u_m_fx (S : MS) (v : Nat → Int64) : MS := (S.1, S.2.1, S.2.2.1, S.2.2.2.1, S.2.2.2.2.1, S.2.2.2.2.2.1, v, S.2.2.2.2.2.2.2.1, S.2.2.2.2.2.2.2.2.1, S.2.2.2.2.2.2.2.2.2.1, S.2.2.2.2.2.2.2.2.2.2.1, S.2.2.2.2.2.2.2.2.2.2.2.1, S.2.2.2.2.2.2.2.2.2.2.2.2.1, S.2.2.2.2.2.2.2.2.2.2.2.2.2.1, S.2.2.2.2.2.2.2.2.2.2.2.2.2.2.1, S.2.2.2.2.2.2.2.2.2.2.2.2.2.2.2.1, S.2.2.2.2.2.2.2.2.2.2.2.2.2.2.2.2.1, S.2.2.2.2.2.2.2.2.2.2.2.2.2.2.2.2.2.1, S.2.2.2.2.2.2.2.2.2.2.2.2.2.2.2.2.2.2.1, S.2.2.2.2.2.2.2.2.2.2.2.2.2.2.2.2.2.2.2.1, S.2.2.2.2.2.2.2.2.2.2.2.2.2.2.2.2.2.2.2.2)
def u_m_fy (S : MS) (v : Nat → Int64) : MS := (S.1, S.2.1, S.2.2.1, S.2.2.2.1, S.2.2.2.2.1, S.2.2.2.2.2.1, S.2.2.2.2.2.2.1, v, S.2.2.2.2.2.2.2.2.1, S.2.2.2.2.2.2.2.2.2.1, S.2.2.2.2.2.2.2.2.2.2.1, S.2.2.2.2.2.2.2.2.2.2.2.1, S.2.2.2.2.2.2.2.2.2.2.2.2.1, S.2.2.2.2.2.2.2.2.2.2.2.2.2.1, S.2.2.2.2.2.2.2.2.2.2.2.2.2.2.1, S.2.2.2.2.2.2.2.2.2.2.2.2.2.2.2.1, S.2.2.2.2.2.2.2.2.2.2.2.2.2.2.2.2.1, S.2.2.2.2.2.2.2.2.2.2.2.2.2.2.2.2.2.1, S.2.2.2.2.2.2.2.2.2.2.2.2.2.2.2.2.2.2.1, S.2.2.2.2.2.2.2.2.2.2.2.2.2.2.2.2.2.2.2.1, S.2.2.2.2.2.2.2.2.2.2.2.2.2.2.2.2.2.2.2.2)
def u_m_gx (S : MS) (v : Int64) : MS := (S.1, S.2.1, S.2.2.1, S.2.2.2.1, S.2.2.2.2.1, S.2.2.2.2.2.1, S.2.2.2.2.2.2.1, S.2.2.2.2.2.2.2.1, v, S.2.2.2.2.2.2.2.2.2.1, S.2.2.2.2.2.2.2.2.2.2.1, S.2.2.2.2.2.2.2.2.2.2.2.1, S.2.2.2.2.2.2.2.2.2.2.2.2.1, S.2.2.2.2.2.2.2.2.2.2.2.2.2.1, S.2.2.2.2.2.2.2.2.2.2.2.2.2.2.1, S.2.2.2.2.2.2.2.2.2.2.2.2.2.2.2.1, S.2.2.2.2.2.2.2.2.2.2.2.2.2.2.2.2.1, S.2.2.2.2.2.2.2.2.2.2.2.2.2.2.2.2.2.1, S.2.2.2.2.2.2.2.2.2.2.2.2.2.2.2.2.2.2.1, S.2.2.2.2.2.2.2.2.2.2.2.2.2.2.2.2.2.2.2.1, S.2.2.2.2.2.2.2.2.2.2.2.2.2.2.2.2.2.2.2.2)
def u_m_gy (S : MS) (v : Int64) : MS := (S.1, S.2.1, S.2.2.1, S.2.2.2.1, S.2.2.2.2.1, S.2.2.2.2.2.1, S.2.2.2.2.2.2.1, S.2.2.2.2.2.2.2.1, S.2.2.2.2.2.2.2.2.1, v, S.2.2.2.2.2.2.2.2.2.2.1, S.2.2.2.2.2.2.2.2.2.2.2.1, S.2.2.2.2.2.2.2.2.2.2.2.2.1, S.2.2.2.2.2.2.2.2.2.2.2.2.2.1, S.2.2.2.2.2.2.2.2.2.2.2.2.2.2.1, S.2.2.2.2.2.2.2.2.2.2.2.2.2.2.2.1, S.2.2.2.2.2.2.2.2.2.2.2.2.2.2.2.2.1, S.2.2.2.2.2.2.2.2.2.2.2.2.2.2.2.2.2.1, S.2.2.2.2.2.2.2.2.2.2.2.2.2.2.2.2.2.2.1, S.2.2.2.2.2.2.2.2.2.2.2.2.2.2.2.2.2.2.2.1, S.2.2.2.2.2.2.2.2.2.2.2.2.2.2.2.2.2.2.2.2)
def u_m_drag (S : MS) (v : Int64) : MS := (S.1, S.2.1, S.2.2.1, S.2.2.2.1, S.2.2.2.2.1, S.2.2.2.2.2.1, S.2.2.2.2.2.2.1, S.2.2.2.2.2.2.2.1, S.2.2.2.2.2.2.2.2.1, S.2.2.2.2.2.2.2.2.2.1, v, S.2.2.2.2.2.2.2.2.2.2.2.1, S.2.2.2.2.2.2.2.2.2.2.2.2.1, S.2.2.2.2.2.2.2.2.2.2.2.2.2.1, S.2.2.2.2.2.2.2.2.2.2.2.2.2.2.1, S.2.2.2.2.2.2.2.2.2.2.2.2.2.2.2.1, S.2.2.2.2.2.2.2.2.2.2.2.2.2.2.2.2.1, S.2.2.2.2.2.2.2.2.2.2.2.2.2.2.2.2.2.1, S.2.2.2.2.2.2.2.2.2.2.2.2.2.2.2.2.2.2.1, S.2.2.2.2.2.2.2.2.2.2.2.2.2.2.2.2.2.2.2.1, S.2.2.2.2.2.2.2.2.2.2.2.2.2.2.2.2.2.2.2.2)
def u_m_dt (S : MS) (v : Int64) : MS := (S.1, S.2.1, S.2.2.1, S.2.2.2.1, S.2.2.2.2.1, S.2.2.2.2.2.1, S.2.2.2.2.2.2.1, S.2.2.2.2.2.2.2.1, S.2.2.2.2.2.2.2.2.1, S.2.2.2.2.2.2.2.2.2.1, S.2.2.2.2.2.2.2.2.2.2.1, v, S.2.2.2.2.2.2.2.2.2.2.2.2.1, S.2.2.2.2.2.2.2.2.2.2.2.2.2.1, S.2.2.2.2.2.2.2.2.2.2.2.2.2.2.1, S.2.2.2.2.2.2.2.2.2.2.2.2.2.2.2.1, S.2.2.2.2.2.2.2.2.2.2.2.2.2.2.2.2.1, S.2.2.2.2.2.2.2.2.2.2.2.2.2.2.2.2.2.1, S.2.2.2.2.2.2.2.2.2.2.2.2.2.2.2.2.2.2.1, S.2.2.2.2.2.2.2.2.2.2.2.2.2.2.2.2.2.2.2.1, S.2.2.2.2.2.2.2.2.2.2.2.2.2.2.2.2.2.2.2.2)
def u_m_wall (S : MS) (v : Int64) : MS := (S.1, S.2.1, S.2.2.1, S.2.2.2.1, S.2.2.2.2.1, S.2.2.2.2.2.1, S.2.2.2.2.2.2.1, S.2.2.2.2.2.2.2.1, S.2.2.2.2.2.2.2.2.1, S.2.2.2.2.2.2.2.2.2.1, S.2.2.2.2.2.2.2.2.2.2.1, S.2.2.2.2.2.2.2.2.2.2.2.1, v, S.2.2.2.2.2.2.2.2.2.2.2.2.2.1, S.2.2.2.2.2.2.2.2.2.2.2.2.2.2.1, S.2.2.2.2.2.2.2.2.2.2.2.2.2.2.2.1, S.2.2.2.2.2.2.2.2.2.2.2.2.2.2.2.2.1, S.2.2.2.2.2.2.2.2.2.2.2.2.2.2.2.2.2.1, S.2.2.2.2.2.2.2.2.2.2.2.2.2.2.2.2.2.2.1, S.2.2.2.2.2.2.2.2.2.2.2.2.2.2.2.2.2.2.2.1, S.2.2.2.2.2.2.2.2.2.2.2.2.2.2.2.2.2.2.2.2)
def u_m_back (S : MS) (v : Int64) : MS := (S.1, S.2.1, S.2.2.1, S.2.2.2.1, S.2.2.2.2.1, S.2.2.2.2.2.1, S.2.2.2.2.2.2.1, S.2.2.2.2.2.2.2.1, S.2.2.2.2.2.2.2.2.1, S.2.2.2.2.2.2.2.2.2.1, S.2.2.2.2.2.2.2.2.2.2.1, S.2.2.2.2.2.2.2.2.2.2.2.1, S.2.2.2.2.2.2.2.2.2.2.2.2.1, v, S.2.2.2.2.2.2.2.2.2.2.2.2.2.2.1, S.2.2.2.2.2.2.2.2.2.2.2.2.2.2.2.1, S.2.2.2.2.2.2.2.2.2.2.2.2.2.2.2.2.1, S.2.2.2.2.2.2.2.2.2.2.2.2.2.2.2.2.2.1, S.2.2.2.2.2.2.2.2.2.2.2.2.2.2.2.2.2.2.1, S.2.2.2.2.2.2.2.2.2.2.2.2.2.2.2.2.2.2.2.1, S.2.2.2.2.2.2.2.2.2.2.2.2.2.2.2.2.2.2.2.2)
def u_m_left (S : MS) (v : Nat → Int32) : MS := (S.1, S.2.1, S.2.2.1, S.2.2.2.1, S.2.2.2.2.1, S.2.2.2.2.2.1, S.2.2.2.2.2.2.1, S.2.2.2.2.2.2.2.1, S.2.2.2.2.2.2.2.2.1, S.2.2.2.2.2.2.2.2.2.1, S.2.2.2.2.2.2.2.2.2.2.1, S.2.2.2.2.2.2.2.2.2.2.2.1, S.2.2.2.2.2.2.2.2.2.2.2.2.1, S.2.2.2.2.2.2.2.2.2.2.2.2.2.1, v, S.2.2.2.2.2.2.2.2.2.2.2.2.2.2.2.1, S.2.2.2.2.2.2.2.2.2.2.2.2.2.2.2.2.1, S.2.2.2.2.2.2.2.2.2.2.2.2.2.2.2.2.2.1, S.2.2.2.2.2.2.2.2.2.2.2.2.2.2.2.2.2.2.1, S.2.2.2.2.2.2.2.2.2.2.2.2.2.2.2.2.2.2.2.1, S.2.2.2.2.2.2.2.2.2.2.2.2.2.2.2.2.2.2.2.2)
def u_m_right (S : MS) (v : Nat → Int32) : MS := (S.1, S.2.1, S.2.2.1, S.2.2.2.1, S.2.2.2.2.1, S.2.2.2.2.2.1, S.2.2.2.2.2.2.1, S.2.2.2.2.2.2.2.1, S.2.2.2.2.2.2.2.2.1, S.2.2.2.2.2.2.2.2.2.1, S.2.2.2.2.2.2.2.2.2.2.1, S.2.2.2.2.2.2.2.2.2.2.2.1, S.2.2.2.2.2.2.2.2.2.2.2.2.1, S.2.2.2.2.2.2.2.2.2.2.2.2.2.1, S.2.2.2.2.2.2.2.2.2.2.2.2.2.2.1, v, S.2.2.2.2.2.2.2.2.2.2.2.2.2.2.2.2.1, S.2.2.2.2.2.2.2.2.2.2.2.2.2.2.2.2.2.1, S.2.2.2.2.2.2.2.2.2.2.2.2.2.2.2.2.2.2.1, S.2.2.2.2.2.2.2.2.2.2.2.2.2.2.2.2.2.2.2.1, S.2.2.2.2.2.2.2.2.2.2.2.2.2.2.2.2.2.2.2.2)
def u_m_k (S : MS) (v : Nat → Int64) : MS := (S.1, S.2.1, S.2.2.1, S.2.2.2.1, S.2.2.2.2.1, S.2.2.2.2.2.1, S.2.2.2.2.2.2.1, S.2.2.2.2.2.2.2.1, S.2.2.2.2.2.2.2.2.1, S.2.2.2.2.2.2.2.2.2.1, S.2.2.2.2.2.2.2.2.2.2.1, S.2.2.2.2.2.2.2.2.2.2.2.1, S.2.2.2.2.2.2.2.2.2.2.2.2.1, S.2.2.2.2.2.2.2.2.2.2.2.2.2.1, S.2.2.2.2.2.2.2.2.2.2.2.2.2.2.1, S.2.2.2.2.2.2.2.2.2.2.2.2.2.2.2.1, v, S.2.2.2.2.2.2.2.2.2.2.2.2.2.2.2.2.2.1, S.2.2.2.2.2.2.2.2.2.2.2.2.2.2.2.2.2.2.1, S.2.2.2.2.2.2.2.2.2.2.2.2.2.2.2.2.2.2.2.1, S.2.2.2.2.2.2.2.2.2.2.2.2.2.2.2.2.2.2.2.2)
def u_m_l (S : MS) (v : Nat → Int64) : MS := (S.1, S.2.1, S.2.2.1, S.2.2.2.1, S.2.2.2.2.1, S.2.2.2.2.2.1, S.2.2.2.2.2.2.1, S.2.2.2.2.2.2.2.1, S.2.2.2.2.2.2.2.2.1, S.2.2.2.2.2.2.2.2.2.1, S.2.2.2.2.2.2.2.2.2.2.1, S.2.2.2.2.2.2.2.2.2.2.2.1, S.2.2.2.2.2.2.2.2.2.2.2.2.1, S.2.2.2.2.2.2.2.2.2.2.2.2.2.1, S.2.2.2.2.2.2.2.2.2.2.2.2.2.2.1, S.2.2.2.2.2.2.2.2.2.2.2.2.2.2.2.1, S.2.2.2.2.2.2.2.2.2.2.2.2.2.2.2.2.1, v, S.2.2.2.2.2.2.2.2.2.2.2.2.2.2.2.2.2.2.1, S.2.2.2.2.2.2.2.2.2.2.2.2.2.2.2.2.2.2.2.1, S.2.2.2.2.2.2.2.2.2.2.2.2.2.2.2.2.2.2.2.2)
def u_m_c (S : MS) (v : Nat → Int64) : MS := (S.1, S.2.1, S.2.2.1, S.2.2.2.1, S.2.2.2.2.1, S.2.2.2.2.2.1, S.2.2.2.2.2.2.1, S.2.2.2.2.2.2.2.1, S.2.2.2.2.2.2.2.2.1, S.2.2.2.2.2.2.2.2.2.1, S.2.2.2.2.2.2.2.2.2.2.1, S.2.2.2.2.2.2.2.2.2.2.2.1, S.2.2.2.2.2.2.2.2.2.2.2.2.1, S.2.2.2.2.2.2.2.2.2.2.2.2.2.1, S.2.2.2.2.2.2.2.2.2.2.2.2.2.2.1, S.2.2.2.2.2.2.2.2.2.2.2.2.2.2.2.1, S.2.2.2.2.2.2.2.2.2.2.2.2.2.2.2.2.1, S.2.2.2.2.2.2.2.2.2.2.2.2.2.2.2.2.2.1, v, S.2.2.2.2.2.2.2.2.2.2.2.2.2.2.2.2.2.2.2.1, S.2.2.2.2.2.2.2.2.2.2.2.2.2.2.2.2.2.2.2.2)
def u_m_springs (S : MS) (v : Int32) : MS := (S.1, S.2.1, S.2.2.1, S.2.2.2.1, S.2.2.2.2.1, S.2.2.2.2.2.1, S.2.2.2.2.2.2.1, S.2.2.2.2.2.2.2.1, S.2.2.2.2.2.2.2.2.1, S.2.2.2.2.2.2.2.2.2.1, S.2.2.2.2.2.2.2.2.2.2.1, S.2.2.2.2.2.2.2.2.2.2.2.1, S.2.2.2.2.2.2.2.2.2.2.2.2.1, S.2.2.2.2.2.2.2.2.2.2.2.2.2.1, S.2.2.2.2.2.2.2.2.2.2.2.2.2.2.1, S.2.2.2.2.2.2.2.2.2.2.2.2.2.2.2.1, S.2.2.2.2.2.2.2.2.2.2.2.2.2.2.2.2.1, S.2.2.2.2.2.2.2.2.2.2.2.2.2.2.2.2.2.1, S.2.2.2.2.2.2.2.2.2.2.2.2.2.2.2.2.2.2.1, v, S.2.2.2.2.2.2.2.2.2.2.2.2.2.2.2.2.2.2.2.2)
def u_m_store (S : MS) (v : Nat → Int64) : MS := (S.1, S.2.1, S.2.2.1, S.2.2.2.1, S.2.2.2.2.1, S.2.2.2.2.2.1, S.2.2.2.2.2.2.1, S.2.2.2.2.2.2.2.1, S.2.2.2.2.2.2.2.2.1, S.2.2.2.2.2.2.2.2.2.1, S.2.2.2.2.2.2.2.2.2.2.1, S.2.2.2.2.2.2.2.2.2.2.2.1, S.2.2.2.2.2.2.2.2.2.2.2.2.1, S.2.2.2.2.2.2.2.2.2.2.2.2.2.1, S.2.2.2.2.2.2.2.2.2.2.2.2.2.2.1, S.2.2.2.2.2.2.2.2.2.2.2.2.2.2.2.1, S.2.2.2.2.2.2.2.2.2.2.2.2.2.2.2.2.1, S.2.2.2.2.2.2.2.2.2.2.2.2.2.2.2.2.2.1, S.2.2.2.2.2.2.2.2.2.2.2.2.2.2.2.2.2.2.1, S.2.2.2.2.2.2.2.2.2.2.2.2.2.2.2.2.2.2.2.1, v)
def R_L : String := "MotionLab"
def F_L : u_T := fun k => match k with
  | 0 => ("MotionLab", "plane", "LMotionLab$Plane;", true)
  | _ => ("MotionLab", "stores", "[J", true)
def t_L : Nat → FieldType := fun k => match k with
  | 0 => .object "MotionLab$Plane"
  | _ => (.array .long)
theorem n_L : ∀ a, a < 2 → ∀ b, b < 2 → a ≠ b → (F_L a).2.1 ≠ (F_L b).2.1 := by decide +kernel
theorem t_L_ok : ∀ k, k < 2 → parseFieldDescriptor (F_L k).2.2.1 = some (t_L k) := by decide +kernel
theorem i_L : ∀ w ∈ u_ws R_L F_L 2, w ∈ lw_g := by decide +kernel
def R_P : String := "MotionLab$Plane"
def F_P : u_T := fun k => match k with
  | 0 => ("MotionLab$Plane", "rows", "[J", true)
  | 1 => ("MotionLab$Plane", "field", "[J", true)
  | _ => ("MotionLab$Plane", "springs", "LMotionLab$Springs;", true)
def t_P : Nat → FieldType := fun k => match k with
  | 0 => (.array .long)
  | 1 => (.array .long)
  | _ => .object "MotionLab$Springs"
theorem n_P : ∀ a, a < 3 → ∀ b, b < 3 → a ≠ b → (F_P a).2.1 ≠ (F_P b).2.1 := by decide +kernel
theorem t_P_ok : ∀ k, k < 3 → parseFieldDescriptor (F_P k).2.2.1 = some (t_P k) := by decide +kernel
theorem i_P : ∀ w ∈ u_ws R_P F_P 3, w ∈ lw_g := by decide +kernel
def R_S : String := "MotionLab$Springs"
def F_S : u_T := fun k => match k with
  | 0 => ("MotionLab$Springs", "bodies", "[I", true)
  | 1 => ("MotionLab$Springs", "numbers", "[J", true)
  | _ => ("MotionLab$Springs", "count", "I", false)
def t_S : Nat → FieldType := fun k => match k with
  | 0 => (.array .int)
  | 1 => (.array .long)
  | _ => .int
theorem n_S : ∀ a, a < 3 → ∀ b, b < 3 → a ≠ b → (F_S a).2.1 ≠ (F_S b).2.1 := by decide +kernel
theorem t_S_ok : ∀ k, k < 3 → parseFieldDescriptor (F_S k).2.2.1 = some (t_S k) := by decide +kernel
theorem i_S : ∀ w ∈ u_ws R_S F_S 3, w ∈ lw_g := by decide +kernel
def R_M : String := "MotionLabModel"
def F_M : u_T := fun k => match k with
  | 0 => ("MotionLabModel", "x", "[J", true)
  | 1 => ("MotionLabModel", "y", "[J", true)
  | 2 => ("MotionLabModel", "u", "[J", true)
  | 3 => ("MotionLabModel", "v", "[J", true)
  | 4 => ("MotionLabModel", "m", "[J", true)
  | 5 => ("MotionLabModel", "\x72", "[J", true)
  | 6 => ("MotionLabModel", "fx", "[J", true)
  | 7 => ("MotionLabModel", "fy", "[J", true)
  | 8 => ("MotionLabModel", "gx", "J", false)
  | 9 => ("MotionLabModel", "gy", "J", false)
  | 10 => ("MotionLabModel", "drag", "J", false)
  | 11 => ("MotionLabModel", "dt", "J", false)
  | 12 => ("MotionLabModel", "wall", "J", false)
  | 13 => ("MotionLabModel", "back", "J", false)
  | 14 => ("MotionLabModel", "left", "[I", true)
  | 15 => ("MotionLabModel", "right", "[I", true)
  | 16 => ("MotionLabModel", "k", "[J", true)
  | 17 => ("MotionLabModel", "l", "[J", true)
  | 18 => ("MotionLabModel", "c", "[J", true)
  | 19 => ("MotionLabModel", "springs", "I", false)
  | _ => ("MotionLabModel", "store", "[J", true)
def t_M : Nat → FieldType := fun k => match k with
  | 0 => (.array .long)
  | 1 => (.array .long)
  | 2 => (.array .long)
  | 3 => (.array .long)
  | 4 => (.array .long)
  | 5 => (.array .long)
  | 6 => (.array .long)
  | 7 => (.array .long)
  | 8 => .long
  | 9 => .long
  | 10 => .long
  | 11 => .long
  | 12 => .long
  | 13 => .long
  | 14 => (.array .int)
  | 15 => (.array .int)
  | 16 => (.array .long)
  | 17 => (.array .long)
  | 18 => (.array .long)
  | 19 => .int
  | _ => (.array .long)
theorem n_M : ∀ a, a < 21 → ∀ b, b < 21 → a ≠ b → (F_M a).2.1 ≠ (F_M b).2.1 := by decide +kernel
theorem t_M_ok : ∀ k, k < 21 → parseFieldDescriptor (F_M k).2.2.1 = some (t_M k) := by decide +kernel
theorem i_M : ∀ w ∈ u_ws R_M F_M 21, w ∈ lw_g := by decide +kernel
abbrev classes : List vw_C := [(R_L, F_L, 2), (R_P, F_P, 3), (R_S, F_S, 3), (R_M, F_M, 21)]
abbrev tysJI (cJ cI : ClassId) : List (ClassId × FieldType) := [(cJ, .long), (cI, .int)]
def cW (ad : Nat → Nat) (cJ cI : ClassId) (S : CS) : va_W := [(ad 0, .inr (0, [.ref (ad 1), .ref (ad 2)])), (ad 1, .inr (1, [.ref (ad 3), .ref (ad 4), .ref (ad 5)])), (ad 2, .inl (cJ, 8, .inr (.inl (sT S)))), (ad 3, .inl (cJ, 64, .inr (.inl (sR S)))), (ad 4, .inl (cJ, 6, .inr (.inl (sF S)))), (ad 5, .inr (2, [.ref (ad 6), .ref (ad 7), .int (sC S)])), (ad 6, .inl (cI, 20, .inl (sB S))), (ad 7, .inl (cJ, 30, .inr (.inl (sN S))))]
def mW (ad : Nat → Nat) (cJ cI : ClassId) (S : MS) : va_W := [(ad 0, .inr (3, [.ref (ad 1), .ref (ad 2), .ref (ad 3), .ref (ad 4), .ref (ad 5), .ref (ad 6), .ref (ad 7), .ref (ad 8), .long (m_gx S), .long (m_gy S), .long (m_drag S), .long (m_dt S), .long (m_wall S), .long (m_back S), .ref (ad 9), .ref (ad 10), .ref (ad 11), .ref (ad 12), .ref (ad 13), .int (m_springs S), .ref (ad 14)])), (ad 1, .inl (cJ, 8, .inr (.inl (m_x S)))), (ad 2, .inl (cJ, 8, .inr (.inl (m_y S)))), (ad 3, .inl (cJ, 8, .inr (.inl (m_u S)))), (ad 4, .inl (cJ, 8, .inr (.inl (m_v S)))), (ad 5, .inl (cJ, 8, .inr (.inl (m_m S)))), (ad 6, .inl (cJ, 8, .inr (.inl (m_r S)))), (ad 7, .inl (cJ, 8, .inr (.inl (m_fx S)))), (ad 8, .inl (cJ, 8, .inr (.inl (m_fy S)))), (ad 9, .inl (cI, 10, .inl (m_left S))), (ad 10, .inl (cI, 10, .inl (m_right S))), (ad 11, .inl (cJ, 10, .inr (.inl (m_k S)))), (ad 12, .inl (cJ, 10, .inr (.inl (m_l S)))), (ad 13, .inl (cJ, 10, .inr (.inl (m_c S)))), (ad 14, .inl (cJ, 8, .inr (.inl (m_store S))))]
-- what the guards say
theorem gd_in {x b : Int32} {n : Nat} (hb : b.toInt = n) (h0 : ¬ x < 0) (h1 : ¬ b ≤ x) : vp_in x n := by
  rw [Int32.lt_iff_toInt_lt] at h0
  rw [Int32.le_iff_toInt_le] at h1
  have z : (0 : Int32).toInt = 0 := rfl
  exact in_of (by omega) (by omega)
theorem in_isBody {x : Int32} (h : ¬ f_P_isBody_I x = 0) : vp_in x 8 := by
  unfold f_P_isBody_I at h
  by_cases h0 : x < 0
  · rw [if_pos h0] at h; exact absurd rfl h
  · rw [if_neg h0] at h
    by_cases h1 : (8 : Int32) ≤ x
    · rw [if_pos h1] at h; exact absurd rfl h
    · exact gd_in (b := 8) rfl h0 h1
theorem in_isStore {x : Int32} (h : ¬ f_L_isStore_I x = 0) : vp_in x 8 := by
  unfold f_L_isStore_I at h
  by_cases h0 : x < 0
  · rw [if_pos h0] at h; exact absurd rfl h
  · rw [if_neg h0] at h
    by_cases h1 : (8 : Int32) ≤ x
    · rw [if_pos h1] at h; exact absurd rfl h
    · exact gd_in (b := 8) rfl h0 h1
theorem in_isBodyNumber {x : Int32} (h : ¬ f_P_isBodyNumber_I x = 0) : vp_in x 6 := by
  unfold f_P_isBodyNumber_I at h
  by_cases h0 : x < 0
  · rw [if_pos h0] at h; exact absurd rfl h
  · rw [if_neg h0] at h
    by_cases h1 : (6 : Int32) ≤ x
    · rw [if_pos h1] at h; exact absurd rfl h
    · exact gd_in (b := 6) rfl h0 h1
theorem in_isFieldNumber {x : Int32} (h : ¬ f_P_isFieldNumber_I x = 0) : vp_in x 6 := by
  unfold f_P_isFieldNumber_I at h
  by_cases h0 : x < 0
  · rw [if_pos h0] at h; exact absurd rfl h
  · rw [if_neg h0] at h
    by_cases h1 : (6 : Int32) ≤ x
    · rw [if_pos h1] at h; exact absurd rfl h
    · exact gd_in (b := 6) rfl h0 h1
theorem in_in {x b : Int32} {n : Nat} (h : ¬ f_M_in_II x b = 0) (hb : b.toInt ≤ n) (hb0 : 0 ≤ b.toInt) : vp_in x n := by
  unfold f_M_in_II at h
  by_cases h0 : x < 0
  · rw [if_pos h0] at h; exact absurd rfl h
  · rw [if_neg h0] at h
    by_cases h1 : b ≤ x
    · rw [if_pos h1] at h; exact absurd rfl h
    · rw [Int32.lt_iff_toInt_lt] at h0
      rw [Int32.le_iff_toInt_le] at h1
      have z : (0 : Int32).toInt = 0 := rfl
      exact in_of (by omega) (by omega)
-- springs join bodies
def cOK (S : CS) : Prop := vp_in (sC S) 11 ∧ ∀ j : Nat, j < (sC S).toNatClampNeg → vp_in (sB S (2 * j)) 8 ∧ vp_in (sB S (2 * j + 1)) 8
def mOK (S : MS) : Prop := vp_in (m_springs S) 11 ∧ ∀ j : Nat, j < (m_springs S).toNatClampNeg → vp_in (m_left S j) 8 ∧ vp_in (m_right S j) 8
theorem cOK_of {S S' : CS} (h : sB S' = sB S ∧ sC S' = sC S) (hS : cOK S) : cOK S' := by unfold cOK; rw [h.1, h.2]; exact hS
theorem mOK_of {S S' : MS} (h : m_left S' = m_left S ∧ m_right S' = m_right S ∧ m_springs S' = m_springs S) (hS : mOK S) : mOK S' := by unfold mOK; rw [h.1, h.2.1, h.2.2]; exact hS
theorem ix_two {j : Nat} (h : j < 1000) : (nI j * (2 : Int32)).toNatClampNeg = 2 * j ∧ (nI j * (2 : Int32) + (1 : Int32)).toNatClampNeg = 2 * j + 1 := by
  have e : nI j * (2 : Int32) = nI (2 * j) := by
    rw [show (2 : Int32) = iZ 2 from rfl, ← iZ_nI, iZ_mul, ← iZ_nI]; exact congrArg iZ (by omega)
  rw [e, nI_1]
  exact ⟨nI_clamp (by omega), nI_clamp (by omega)⟩
theorem lp_at {x d : Int32} {n : Nat} (h : ∃ j : Nat, x = nI j ∧ j ≤ d.toNatClampNeg ∧ d.toNatClampNeg - j < n) (hd : vp_in d 11) (c : ¬ d ≤ x) : ∃ j : Nat, x = nI j ∧ j < d.toNatClampNeg ∧ j < 10 := by
  obtain ⟨j, h1, h2, h3⟩ := h
  obtain ⟨a, b, e⟩ := in_to hd
  have hj : (nI j).toInt = j := nI_toInt (by omega)
  rw [Int32.le_iff_toInt_le, h1, hj] at c
  exact ⟨j, h1, by omega, by omega⟩
