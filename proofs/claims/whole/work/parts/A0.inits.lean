theorem tw_14 : (Jvm.Cond.methodLink "MotionLab" (1 : Nat) ({ cls := "java/lang/Object", name := "<init>", desc := "()V" } : Jvm.MethodName)) ∈ lw_g := List.mem_filter.mpr ⟨List.mem_append_right _ (List.mem_of_getElem? (i := 14) (by decide +kernel)), by decide +kernel⟩
theorem tw_15 : (Jvm.Cond.instanceMethod ({ cls := "java/lang/Object", name := "<init>", desc := "()V" } : Jvm.MethodName)) ∈ lw_g := List.mem_filter.mpr ⟨List.mem_append_right _ (List.mem_of_getElem? (i := 15) (by decide +kernel)), by decide +kernel⟩
theorem tw_16 : (Jvm.Cond.code ({ cls := "java/lang/Object", name := "<init>", desc := "()V" } : Jvm.MethodName) object_method_1_code (1 : Nat) (Option.none : Option Jvm.ClassFile.FieldType)) ∈ lw_g := List.mem_filter.mpr ⟨List.mem_append_right _ (List.mem_of_getElem? (i := 16) (by decide +kernel)), by decide +kernel⟩
theorem tw_17 : (Jvm.Cond.classLink "MotionLab" (7 : Nat) "MotionLab$Plane") ∈ lw_g := List.mem_filter.mpr ⟨List.mem_append_right _ (List.mem_of_getElem? (i := 17) (by decide +kernel)), by decide +kernel⟩
theorem tw_18 : (Jvm.Cond.instantiable "MotionLab$Plane" (3 : Nat)) ∈ lw_g := List.mem_filter.mpr ⟨List.mem_append_right _ (List.mem_of_getElem? (i := 18) (by decide +kernel)), by decide +kernel⟩
theorem tw_19 : (Jvm.Cond.methodLink "MotionLab" (9 : Nat) ({ cls := "MotionLab$Plane", name := "<init>", desc := "()V" } : Jvm.MethodName)) ∈ lw_g := List.mem_filter.mpr ⟨List.mem_append_right _ (List.mem_of_getElem? (i := 19) (by decide +kernel)), by decide +kernel⟩
theorem tw_20 : (Jvm.Cond.instanceMethod ({ cls := "MotionLab$Plane", name := "<init>", desc := "()V" } : Jvm.MethodName)) ∈ lw_g := List.mem_filter.mpr ⟨List.mem_append_right _ (List.mem_of_getElem? (i := 20) (by decide +kernel)), by decide +kernel⟩
theorem tw_21 : (Jvm.Cond.code ({ cls := "MotionLab$Plane", name := "<init>", desc := "()V" } : Jvm.MethodName) prog_3_method_1_code (2 : Nat) (Option.none : Option Jvm.ClassFile.FieldType)) ∈ lw_g := List.mem_filter.mpr ⟨List.mem_append_right _ (List.mem_of_getElem? (i := 21) (by decide +kernel)), by decide +kernel⟩
theorem tw_22 : (Jvm.Cond.methodLink "MotionLab$Plane" (1 : Nat) ({ cls := "java/lang/Object", name := "<init>", desc := "()V" } : Jvm.MethodName)) ∈ lw_g := List.mem_filter.mpr ⟨List.mem_append_right _ (List.mem_of_getElem? (i := 22) (by decide +kernel)), by decide +kernel⟩
theorem tw_23 : (Jvm.Cond.classLink "MotionLab$Plane" (16 : Nat) "MotionLab$Springs") ∈ lw_g := List.mem_filter.mpr ⟨List.mem_append_right _ (List.mem_of_getElem? (i := 23) (by decide +kernel)), by decide +kernel⟩
theorem tw_24 : (Jvm.Cond.instantiable "MotionLab$Springs" (3 : Nat)) ∈ lw_g := List.mem_filter.mpr ⟨List.mem_append_right _ (List.mem_of_getElem? (i := 24) (by decide +kernel)), by decide +kernel⟩
theorem tw_26 : (Jvm.Cond.instanceMethod ({ cls := "MotionLab$Springs", name := "<init>", desc := "()V" } : Jvm.MethodName)) ∈ lw_g := List.mem_filter.mpr ⟨List.mem_append_right _ (List.mem_of_getElem? (i := 26) (by decide +kernel)), by decide +kernel⟩
theorem tw_27 : (Jvm.Cond.code ({ cls := "MotionLab$Springs", name := "<init>", desc := "()V" } : Jvm.MethodName) prog_4_method_1_code (1 : Nat) (Option.none : Option Jvm.ClassFile.FieldType)) ∈ lw_g := List.mem_filter.mpr ⟨List.mem_append_right _ (List.mem_of_getElem? (i := 27) (by decide +kernel)), by decide +kernel⟩
theorem tw_28 : (Jvm.Cond.methodLink "MotionLab$Springs" (1 : Nat) ({ cls := "java/lang/Object", name := "<init>", desc := "()V" } : Jvm.MethodName)) ∈ lw_g := List.mem_filter.mpr ⟨List.mem_append_right _ (List.mem_of_getElem? (i := 28) (by decide +kernel)), by decide +kernel⟩
theorem tw_41 : (Jvm.Cond.arrayClass Jvm.ClassFile.FieldType.long) ∈ lw_g := List.mem_filter.mpr ⟨List.mem_append_right _ (List.mem_of_getElem? (i := 41) (by decide +kernel)), by decide +kernel⟩
theorem tw_42 : (Jvm.Cond.arrayClass Jvm.ClassFile.FieldType.int) ∈ lw_g := List.mem_filter.mpr ⟨List.mem_append_right _ (List.mem_of_getElem? (i := 42) (by decide +kernel)), by decide +kernel⟩
theorem tw_43 : (Jvm.Cond.constantLong "MotionLab$Plane" (25 : Nat) (4607182418800017408 : Int64)) ∈ lw_g := List.mem_filter.mpr ⟨List.mem_append_right _ (List.mem_of_getElem? (i := 43) (by decide +kernel)), by decide +kernel⟩
theorem tw_44 : (Jvm.Cond.constantLong "MotionLab$Plane" (27 : Nat) (4593671619917905920 : Int64)) ∈ lw_g := List.mem_filter.mpr ⟨List.mem_append_right _ (List.mem_of_getElem? (i := 44) (by decide +kernel)), by decide +kernel⟩
theorem tw_45 : (Jvm.Cond.constantLong "MotionLab$Plane" (29 : Nat) (9218868437227405312 : Int64)) ∈ lw_g := List.mem_filter.mpr ⟨List.mem_append_right _ (List.mem_of_getElem? (i := 45) (by decide +kernel)), by decide +kernel⟩
theorem tw_417 : (Jvm.Cond.methodLink "MotionLabModel" (127 : Nat) ({ cls := "java/lang/Object", name := "<init>", desc := "()V" } : Jvm.MethodName)) ∈ lw_g := List.mem_filter.mpr ⟨List.mem_append_right _ (List.mem_of_getElem? (i := 417) (by decide +kernel)), by decide +kernel⟩
theorem tw_418 : (Jvm.Cond.constantLong "MotionLabModel" (158 : Nat) (1040187392 : Int64)) ∈ lw_g := List.mem_filter.mpr ⟨List.mem_append_right _ (List.mem_of_getElem? (i := 418) (by decide +kernel)), by decide +kernel⟩
theorem tw_420 : (Jvm.Cond.constantLong "MotionLabModel" (167 : Nat) (1065353216 : Int64)) ∈ lw_g := List.mem_filter.mpr ⟨List.mem_append_right _ (List.mem_of_getElem? (i := 420) (by decide +kernel)), by decide +kernel⟩
/-! OUR OWN ROWS: the constructors -/
-- ===== MotionLab$Springs.<init>
abbrev y_S_init : MethodName := ⟨"MotionLab$Springs", "<init>", "()V"⟩
abbrev b_S_init : ByteArray := prog_4_method_1_code
theorem d_S_init_0 : decode b_S_init 0 = .ok (.aload_n 0, 1) := by decide +kernel
theorem d_S_init_1 : decode b_S_init 1 = .ok (.invokespecial 1, 3) := by decide +kernel
theorem d_S_init_4 : decode b_S_init 4 = .ok (.aload_n 0, 1) := by decide +kernel
theorem d_S_init_5 : decode b_S_init 5 = .ok (.bipush 20, 2) := by decide +kernel
theorem d_S_init_7 : decode b_S_init 7 = .ok (.newarray .int, 2) := by decide +kernel
theorem d_S_init_9 : decode b_S_init 9 = .ok (.putfield 9, 3) := by decide +kernel
theorem d_S_init_12 : decode b_S_init 12 = .ok (.aload_n 0, 1) := by decide +kernel
theorem d_S_init_13 : decode b_S_init 13 = .ok (.bipush 30, 2) := by decide +kernel
theorem d_S_init_15 : decode b_S_init 15 = .ok (.newarray .long, 2) := by decide +kernel
theorem d_S_init_17 : decode b_S_init 17 = .ok (.putfield 13, 3) := by decide +kernel
theorem d_S_init_20 : decode b_S_init 20 = .ok (.return_, 1) := by decide +kernel
def zp_S_init (cJ cI : ClassId) (h0 : Nat) (u : va_W) : Prop := ∃ a1 a2 : Nat, u = [(h0, .inr (2, [.ref a1, .ref a2, .int 0])), (a1, .inl (cI, 20, .inl (fun _ => 0))), (a2, .inl (cJ, 30, .inr (.inl (fun _ => 0))))]
set_option maxHeartbeats 4000000 in
set_option maxRecDepth 100000 in
theorem c_S_init (l : Launch) (dC : Nat → ClassId) (dI : Nat → Nat → Nat) (cJ cI : ClassId) (h0 sz : Nat) : Met l y_S_init (gw y_S_init b_S_init 1 none) { frames := 1, cells := 2, slots := 50, locals := 12 } (va_Pc [.ref h0] (hPr (dC, dI) classes (tysJI cJ cI) (fun _ => True) [(h0, .inr (2, [.null, .null, .int 0]))] sz)) (va_Qv (zp_S_init cJ cI h0) (hBk (dC, dI) classes (tysJI cJ cI) [(h0, .inr (2, [.null, .null, .int 0]))] sz) (va_A [(h0, .inr (2, [.null, .null, .int 0]))] sz)) 2 50 (va_A [(h0, .inr (2, [.null, .null, .int 0]))] sz) := by
  refine Met.ofW (cc := b_S_init) (maxL := 1) (ret := none) (by decide) rfl ?_
  intro p e s m args below meth c s₁ B hml hv
  obtain ⟨rfl, hsz, hP, hK, hD0, hE⟩ := hv
  have hx := B.exec
  have hb := B.bytes
  have hr := B.returns
  have hts := atoms_spec (ws := (gw y_S_init b_S_init 1 none)) B.pre
  have hown : s.vm.findClass "MotionLab$Springs" = some m.cls := findClass_of_methodNamed B.named
  have hlocks := B.notSynchronized
  have hin : meth.name = "<init>" := (name_of_methodNamed B.named B.method).1
  subst hsz
  have hD := hD0.self (sz := s.heap.size)
  generalize hAe : va_A [(h0, .inr (2, [.null, .null, .int 0]))] s.heap.size = A at hD
  have hA : ∀ q : Nat, s.heap.size ≤ q → A q := fun q h => by rw [← hAe]; exact Or.inr h
  have G : hG (dC, dI) classes A s.heap [(h0, .inr (2, [.null, .null, .int 0]))] s.heap [] := ⟨hP, hD, va_S.rf⟩
  have hl := lv_entry ([.ref h0]) (n := 1) (Nat.le_of_ble_eq_true rfl)
  rw [lg_entry_eq]
  generalize (lg_sl ([.ref h0]) ++ List.replicate (1 - (lg_sl ([.ref h0])).length) Slot.unset).toArray = ls at hl ⊢
  have hl : lv_has ls 1 [(0, .ref h0)] := hl
  refine lv_aload_n hx hb d_S_init_0 rfl (lv_at hl 0 rfl) ?_
  refine W.objInit hx hb hown (hts _ (gm tw_28)) (hts _ (gm tw_15)) (hts _ (gm tw_16)) rfl (by rw [hml]; exact hl.1) rfl d_S_init_1 (Nat.le_of_ble_eq_true rfl) (Nat.le_of_ble_eq_true rfl) ?_
  refine W.eq (g2 := F0 m 4 ls []) rfl ?_
  refine lv_aload_n hx hb d_S_init_4 rfl (lv_at hl 0 rfl) ?_
  refine lv_bipush (v := (20 : Int32)) hx hb d_S_init_5 (by decide) ?_
  refine hg_newI hx hb (hts _ (gm tw_42)) hK G hA (N := 20) (by decide) (by decide) (by decide) (Nat.le_of_ble_eq_true rfl) (Nat.le_of_ble_eq_true rfl) d_S_init_7 (fun q1 H G => ?_)
  have G : hG (dC, dI) classes A s.heap [(h0, .inr (2, [.null, .null, .int 0])), (q1, .inl (cI, 20, .inl (fun _ => 0)))] H _ := G
  refine W.widen (k := 1) (n := 20) (by decide) (by decide) ?_
  refine va_putF (D := (dC, dI)) (ci := 2) (v := .ref q1) (ty := (.array .int)) (C := R_S) (T := F_S) (N := 3) hx hb hts (fun w h => gm (i_S w h)) t_S t_S_ok n_S hown hK G.1 G.2.1 G.2.2 0 rfl rfl 0 (by decide) (hts _ (gm tw_29)) (fun _ h9 => h9) rfl hin rfl (by decide +kernel) rfl rfl (Nat.le_of_ble_eq_true rfl) d_S_init_9 (fun H locs hP hD hS => ?_)
  have G : hG (dC, dI) classes A s.heap [(h0, .inr (2, [.ref q1, .null, .int 0])), (q1, .inl (cI, 20, .inl (fun _ => 0)))] H locs := ⟨hP, hD, hS⟩
  refine lv_aload_n hx hb d_S_init_12 rfl (lv_at hl 0 rfl) ?_
  refine lv_bipush (v := (30 : Int32)) hx hb d_S_init_13 (by decide) ?_
  refine hg_newJ hx hb (hts _ (gm tw_41)) hK G hA (N := 30) (by decide) (by decide) (by decide) (Nat.le_of_ble_eq_true rfl) (Nat.le_of_ble_eq_true rfl) d_S_init_15 (fun q2 H G => ?_)
  have G : hG (dC, dI) classes A s.heap [(h0, .inr (2, [.ref q1, .null, .int 0])), (q1, .inl (cI, 20, .inl (fun _ => 0))), (q2, .inl (cJ, 30, .inr (.inl (fun _ => 0))))] H _ := G
  refine W.widen (k := 2) (n := 50) (by decide) (by decide) ?_
  refine va_putF (D := (dC, dI)) (ci := 2) (v := .ref q2) (ty := (.array .long)) (C := R_S) (T := F_S) (N := 3) hx hb hts (fun w h => gm (i_S w h)) t_S t_S_ok n_S hown hK G.1 G.2.1 G.2.2 0 rfl rfl 1 (by decide) (hts _ (gm tw_30)) (fun _ h9 => h9) rfl hin rfl (by decide +kernel) rfl rfl (Nat.le_of_ble_eq_true rfl) d_S_init_17 (fun H locs hP hD hS => ?_)
  have G : hG (dC, dI) classes A s.heap [(h0, .inr (2, [.ref q1, .ref q2, .int 0])), (q1, .inl (cI, 20, .inl (fun _ => 0))), (q2, .inl (cJ, 30, .inr (.inl (fun _ => 0))))] H locs := ⟨hP, hD, hS⟩
  have hp : zp_S_init cJ cI h0 [(h0, .inr (2, [.ref q1, .ref q2, .int 0])), (q1, .inl (cI, 20, .inl (fun _ => 0))), (q2, .inl (cJ, 30, .inr (.inl (fun _ => 0))))] := ⟨_, _, rfl⟩
  exact hg_nret hx hb hr hlocks hK hAe G hp d_S_init_20
-- ===== MotionLab$Plane.<init>
abbrev y_P_init : MethodName := ⟨"MotionLab$Plane", "<init>", "()V"⟩
abbrev b_P_init : ByteArray := prog_3_method_1_code
theorem d_P_init_0 : decode b_P_init 0 = .ok (.aload_n 0, 1) := by decide +kernel
theorem d_P_init_1 : decode b_P_init 1 = .ok (.invokespecial 1, 3) := by decide +kernel
theorem d_P_init_4 : decode b_P_init 4 = .ok (.aload_n 0, 1) := by decide +kernel
theorem d_P_init_5 : decode b_P_init 5 = .ok (.bipush 64, 2) := by decide +kernel
theorem d_P_init_7 : decode b_P_init 7 = .ok (.newarray .long, 2) := by decide +kernel
theorem d_P_init_9 : decode b_P_init 9 = .ok (.putfield 9, 3) := by decide +kernel
theorem d_P_init_12 : decode b_P_init 12 = .ok (.aload_n 0, 1) := by decide +kernel
theorem d_P_init_13 : decode b_P_init 13 = .ok (.bipush 6, 2) := by decide +kernel
theorem d_P_init_15 : decode b_P_init 15 = .ok (.newarray .long, 2) := by decide +kernel
theorem d_P_init_17 : decode b_P_init 17 = .ok (.putfield 13, 3) := by decide +kernel
theorem d_P_init_20 : decode b_P_init 20 = .ok (.aload_n 0, 1) := by decide +kernel
theorem d_P_init_21 : decode b_P_init 21 = .ok (.new 16, 3) := by decide +kernel
theorem d_P_init_24 : decode b_P_init 24 = .ok (.dup, 1) := by decide +kernel
theorem d_P_init_25 : decode b_P_init 25 = .ok (.invokespecial 18, 3) := by decide +kernel
theorem d_P_init_28 : decode b_P_init 28 = .ok (.putfield 19, 3) := by decide +kernel
theorem d_P_init_31 : decode b_P_init 31 = .ok (.iconst 0, 1) := by decide +kernel
theorem d_P_init_32 : decode b_P_init 32 = .ok (.istore_n 1, 1) := by decide +kernel
theorem d_P_init_33 : decode b_P_init 33 = .ok (.iload_n 1, 1) := by decide +kernel
theorem d_P_init_34 : decode b_P_init 34 = .ok (.bipush 8, 2) := by decide +kernel
theorem d_P_init_36 : decode b_P_init 36 = .ok (.if_icmp .ge 21, 3) := by decide +kernel
theorem d_P_init_39 : decode b_P_init 39 = .ok (.aload_n 0, 1) := by decide +kernel
theorem d_P_init_40 : decode b_P_init 40 = .ok (.getfield 9, 3) := by decide +kernel
theorem d_P_init_43 : decode b_P_init 43 = .ok (.bipush 32, 2) := by decide +kernel
theorem d_P_init_45 : decode b_P_init 45 = .ok (.iload_n 1, 1) := by decide +kernel
theorem d_P_init_46 : decode b_P_init 46 = .ok (.iadd, 1) := by decide +kernel
theorem d_P_init_47 : decode b_P_init 47 = .ok (.ldc2_w 25, 3) := by decide +kernel
theorem d_P_init_50 : decode b_P_init 50 = .ok (.lastore, 1) := by decide +kernel
theorem d_P_init_51 : decode b_P_init 51 = .ok (.iinc 1 1, 3) := by decide +kernel
theorem d_P_init_54 : decode b_P_init 54 = .ok (.goto (-21), 3) := by decide +kernel
theorem d_P_init_57 : decode b_P_init 57 = .ok (.aload_n 0, 1) := by decide +kernel
theorem d_P_init_58 : decode b_P_init 58 = .ok (.getfield 13, 3) := by decide +kernel
theorem d_P_init_61 : decode b_P_init 61 = .ok (.iconst 3, 1) := by decide +kernel
theorem d_P_init_62 : decode b_P_init 62 = .ok (.ldc2_w 27, 3) := by decide +kernel
theorem d_P_init_65 : decode b_P_init 65 = .ok (.lastore, 1) := by decide +kernel
theorem d_P_init_66 : decode b_P_init 66 = .ok (.aload_n 0, 1) := by decide +kernel
theorem d_P_init_67 : decode b_P_init 67 = .ok (.getfield 13, 3) := by decide +kernel
theorem d_P_init_70 : decode b_P_init 70 = .ok (.iconst 4, 1) := by decide +kernel
theorem d_P_init_71 : decode b_P_init 71 = .ok (.ldc2_w 29, 3) := by decide +kernel
theorem d_P_init_74 : decode b_P_init 74 = .ok (.lastore, 1) := by decide +kernel
theorem d_P_init_75 : decode b_P_init 75 = .ok (.aload_n 0, 1) := by decide +kernel
theorem d_P_init_76 : decode b_P_init 76 = .ok (.getfield 13, 3) := by decide +kernel
theorem d_P_init_79 : decode b_P_init 79 = .ok (.iconst 5, 1) := by decide +kernel
theorem d_P_init_80 : decode b_P_init 80 = .ok (.ldc2_w 25, 3) := by decide +kernel
theorem d_P_init_83 : decode b_P_init 83 = .ok (.lastore, 1) := by decide +kernel
theorem d_P_init_84 : decode b_P_init 84 = .ok (.return_, 1) := by decide +kernel
def zP_init_0 : Nat → Int64 := vp_updL (fun _ => 0) (32 : Int32).toNatClampNeg (4607182418800017408 : Int64)
def zP_init_1 : Nat → Int64 := vp_updL zP_init_0 (33 : Int32).toNatClampNeg (4607182418800017408 : Int64)
def zP_init_2 : Nat → Int64 := vp_updL zP_init_1 (34 : Int32).toNatClampNeg (4607182418800017408 : Int64)
def zP_init_3 : Nat → Int64 := vp_updL zP_init_2 (35 : Int32).toNatClampNeg (4607182418800017408 : Int64)
def zP_init_4 : Nat → Int64 := vp_updL zP_init_3 (36 : Int32).toNatClampNeg (4607182418800017408 : Int64)
def zP_init_5 : Nat → Int64 := vp_updL zP_init_4 (37 : Int32).toNatClampNeg (4607182418800017408 : Int64)
def zP_init_6 : Nat → Int64 := vp_updL zP_init_5 (38 : Int32).toNatClampNeg (4607182418800017408 : Int64)
def zP_init_7 : Nat → Int64 := vp_updL zP_init_6 (39 : Int32).toNatClampNeg (4607182418800017408 : Int64)
def zP_init_8 : Nat → Int64 := vp_updL (fun _ => 0) (3 : Int32).toNatClampNeg (4593671619917905920 : Int64)
def zP_init_9 : Nat → Int64 := vp_updL zP_init_8 (4 : Int32).toNatClampNeg (9218868437227405312 : Int64)
def zP_init_10 : Nat → Int64 := vp_updL zP_init_9 (5 : Int32).toNatClampNeg (4607182418800017408 : Int64)
def zR0 : Nat → Int64 := zP_init_7
def zF0 : Nat → Int64 := zP_init_10
def zp_P_init (cJ cI : ClassId) (h0 : Nat) (u : va_W) : Prop := ∃ a1 a2 a3 a4 a5 : Nat, u = [(h0, .inr (1, [.ref a1, .ref a2, .ref a3])), (a1, .inl (cJ, 64, .inr (.inl zR0))), (a2, .inl (cJ, 6, .inr (.inl zF0))), (a3, .inr (2, [.ref a4, .ref a5, .int 0])), (a4, .inl (cI, 20, .inl (fun _ => 0))), (a5, .inl (cJ, 30, .inr (.inl (fun _ => 0))))]
set_option maxHeartbeats 4000000 in
set_option maxRecDepth 100000 in
theorem c_P_init (l : Launch) (dC : Nat → ClassId) (dI : Nat → Nat → Nat) (cJ cI : ClassId) (h0 sz : Nat) : Met l y_P_init (gw y_P_init b_P_init 2 none) { frames := 2, cells := 5, slots := 123, locals := 32 } (va_Pc [.ref h0] (hPr (dC, dI) classes (tysJI cJ cI) (fun U => va_Nw (.methodLinkNest "MotionLab$Plane" 18 ⟨"MotionLab$Springs", "<init>", "()V"⟩ "MotionLab") U) [(h0, .inr (1, [.null, .null, .null]))] sz)) (va_Qv (zp_P_init cJ cI h0) (hBk (dC, dI) classes (tysJI cJ cI) [(h0, .inr (1, [.null, .null, .null]))] sz) (va_A [(h0, .inr (1, [.null, .null, .null]))] sz)) 5 123 (va_A [(h0, .inr (1, [.null, .null, .null]))] sz) := by
  refine Met.ofW (cc := b_P_init) (maxL := 2) (ret := none) (by decide) rfl ?_
  intro p e s m args below meth c s₁ B hml hv
  obtain ⟨rfl, hsz, hP, hK, hD0, hE⟩ := hv
  have hx := B.exec
  have hb := B.bytes
  have hr := B.returns
  have hts := atoms_spec (ws := (gw y_P_init b_P_init 2 none)) B.pre
  have hown : s.vm.findClass "MotionLab$Plane" = some m.cls := findClass_of_methodNamed B.named
  have hlocks := B.notSynchronized
  have hin : meth.name = "<init>" := (name_of_methodNamed B.named B.method).1
  subst hsz
  have hD := hD0.self (sz := s.heap.size)
  generalize hAe : va_A [(h0, .inr (1, [.null, .null, .null]))] s.heap.size = A at hD
  have hA : ∀ q : Nat, s.heap.size ≤ q → A q := fun q h => by rw [← hAe]; exact Or.inr h
  have G : hG (dC, dI) classes A s.heap [(h0, .inr (1, [.null, .null, .null]))] s.heap [] := ⟨hP, hD, va_S.rf⟩
  have hl := lv_entry ([.ref h0]) (n := 2) (Nat.le_of_ble_eq_true rfl)
  rw [lg_entry_eq]
  generalize (lg_sl ([.ref h0]) ++ List.replicate (2 - (lg_sl ([.ref h0])).length) Slot.unset).toArray = ls at hl ⊢
  have hl : lv_has ls 2 [(0, .ref h0)] := hl
  refine lv_aload_n hx hb d_P_init_0 rfl (lv_at hl 0 rfl) ?_
  refine W.objInit hx hb hown (hts _ (gm tw_22)) (hts _ (gm tw_15)) (hts _ (gm tw_16)) rfl (by rw [hml]; exact hl.1) rfl d_P_init_1 (Nat.le_of_ble_eq_true rfl) (Nat.le_of_ble_eq_true rfl) ?_
  refine W.eq (g2 := F0 m 4 ls []) rfl ?_
  refine lv_aload_n hx hb d_P_init_4 rfl (lv_at hl 0 rfl) ?_
  refine lv_bipush (v := (64 : Int32)) hx hb d_P_init_5 (by decide) ?_
  refine hg_newJ hx hb (hts _ (gm tw_41)) hK G hA (N := 64) (by decide) (by decide) (by decide) (Nat.le_of_ble_eq_true rfl) (Nat.le_of_ble_eq_true rfl) d_P_init_7 (fun q1 H G => ?_)
  have G : hG (dC, dI) classes A s.heap [(h0, .inr (1, [.null, .null, .null])), (q1, .inl (cJ, 64, .inr (.inl (fun _ => 0))))] H _ := G
  refine W.widen (k := 1) (n := 64) (by decide) (by decide) ?_
  refine va_putF (D := (dC, dI)) (ci := 1) (v := .ref q1) (ty := (.array .long)) (C := R_P) (T := F_P) (N := 3) hx hb hts (fun w h => gm (i_P w h)) t_P t_P_ok n_P hown hK G.1 G.2.1 G.2.2 0 rfl rfl 0 (by decide) (hts _ (gm tw_46)) (fun _ h9 => h9) rfl hin rfl (by decide +kernel) rfl rfl (Nat.le_of_ble_eq_true rfl) d_P_init_9 (fun H locs hP hD hS => ?_)
  have G : hG (dC, dI) classes A s.heap [(h0, .inr (1, [.ref q1, .null, .null])), (q1, .inl (cJ, 64, .inr (.inl (fun _ => 0))))] H locs := ⟨hP, hD, hS⟩
  refine lv_aload_n hx hb d_P_init_12 rfl (lv_at hl 0 rfl) ?_
  refine lv_bipush (v := (6 : Int32)) hx hb d_P_init_13 (by decide) ?_
  refine hg_newJ hx hb (hts _ (gm tw_41)) hK G hA (N := 6) (by decide) (by decide) (by decide) (Nat.le_of_ble_eq_true rfl) (Nat.le_of_ble_eq_true rfl) d_P_init_15 (fun q2 H G => ?_)
  have G : hG (dC, dI) classes A s.heap [(h0, .inr (1, [.ref q1, .null, .null])), (q1, .inl (cJ, 64, .inr (.inl (fun _ => 0)))), (q2, .inl (cJ, 6, .inr (.inl (fun _ => 0))))] H _ := G
  refine W.widen (k := 2) (n := 70) (by decide) (by decide) ?_
  refine va_putF (D := (dC, dI)) (ci := 1) (v := .ref q2) (ty := (.array .long)) (C := R_P) (T := F_P) (N := 3) hx hb hts (fun w h => gm (i_P w h)) t_P t_P_ok n_P hown hK G.1 G.2.1 G.2.2 0 rfl rfl 1 (by decide) (hts _ (gm tw_47)) (fun _ h9 => h9) rfl hin rfl (by decide +kernel) rfl rfl (Nat.le_of_ble_eq_true rfl) d_P_init_17 (fun H locs hP hD hS => ?_)
  have G : hG (dC, dI) classes A s.heap [(h0, .inr (1, [.ref q1, .ref q2, .null])), (q1, .inl (cJ, 64, .inr (.inl (fun _ => 0)))), (q2, .inl (cJ, 6, .inr (.inl (fun _ => 0))))] H locs := ⟨hP, hD, hS⟩
  refine lv_aload_n hx hb d_P_init_20 rfl (lv_at hl 0 rfl) ?_
  refine va_new (ci := 2) (fs := [.null, .null, .int 0]) (C := R_S) (T := F_S) (N := 3) hx hb hts (fun w h => gm (i_S w h)) t_S t_S_ok hown (hts _ (gm tw_23)) (hts _ (gm tw_24)) (hts _ (gm tw_3)) hK G.1 G.2.1 G.2.2 hA rfl (fun j hj => by rcases (show j = 0 ∨ j = 1 ∨ j = 2 by omega) with rfl | rfl | rfl <;> rfl) (Nat.le_of_ble_eq_true rfl) (Nat.le_of_ble_eq_true rfl) d_P_init_21 (fun q3 H hP hD hS => ?_)
  have G : hG (dC, dI) classes A s.heap [(h0, .inr (1, [.ref q1, .ref q2, .null])), (q1, .inl (cJ, 64, .inr (.inl (fun _ => 0)))), (q2, .inl (cJ, 6, .inr (.inl (fun _ => 0)))), (q3, .inr (2, [.null, .null, .int 0]))] H _ := ⟨hP, hD, hS⟩
  refine W.widen (k := 3) (n := 73) (by decide) (by decide) ?_
  refine lv_dup hx hb d_P_init_24 rfl ?_
  have G : hG (dC, dI) classes A s.heap ([(q3, .inr (2, [.null, .null, .int 0]))] ++ [(h0, .inr (1, [.ref q1, .ref q2, .null])), (q1, .inl (cJ, 64, .inr (.inl (fun _ => 0)))), (q2, .inl (cJ, 6, .inr (.inl (fun _ => 0))))]) H _ := ⟨G.1.sub [3, 0, 1, 2] rfl, G.2.1.sub [3, 0, 1, 2] (by decide) rfl, G.2.2⟩
  refine hg2_initN (As := []) (rest := [.ref q3, .ref h0]) (wa := [(q3, .inr (2, [.null, .null, .int 0]))]) (wb := [(h0, .inr (1, [.ref q1, .ref q2, .null])), (q1, .inl (cJ, 64, .inr (.inl (fun _ => 0)))), (q2, .inl (cJ, 6, .inr (.inl (fun _ => 0))))]) ⟨hx, hb, hml, hown, hts⟩ (c_S_init l dC dI cJ cI q3 _) (gq_callN (k := 0) (fun w h => gm h) hts hE tw_26 tw_3 tw_27 rfl (by decide +kernel) rfl rfl ⟨Nat.le_of_ble_eq_true rfl, Nat.le_of_ble_eq_true rfl⟩) hK G hA (hx_T _ _) rfl hl.1 rfl (Nat.le_of_ble_eq_true rfl) ⟨Nat.le_of_ble_eq_true rfl, Nat.le_of_ble_eq_true rfl⟩ d_P_init_25 (fun u H locs hu G => ?_)
  obtain ⟨q4, q5, rfl⟩ := hu
  have G : hG (dC, dI) classes A s.heap [(h0, .inr (1, [.ref q1, .ref q2, .null])), (q1, .inl (cJ, 64, .inr (.inl (fun _ => 0)))), (q2, .inl (cJ, 6, .inr (.inl (fun _ => 0)))), (q3, .inr (2, [.ref q4, .ref q5, .int 0])), (q4, .inl (cI, 20, .inl (fun _ => 0))), (q5, .inl (cJ, 30, .inr (.inl (fun _ => 0))))] H locs := G
  refine W.widen (k := 5) (n := 123) (by decide) (by decide) ?_
  refine va_putF (D := (dC, dI)) (ci := 1) (v := .ref q3) (ty := (.object "MotionLab$Springs")) (C := R_P) (T := F_P) (N := 3) hx hb hts (fun w h => gm (i_P w h)) t_P t_P_ok n_P hown hK G.1 G.2.1 G.2.2 0 rfl rfl 2 (by decide) (hts _ (gm tw_48)) (fun _ h9 => h9) rfl hin rfl (by decide +kernel) rfl rfl (Nat.le_of_ble_eq_true rfl) d_P_init_28 (fun H locs hP hD hS => ?_)
  have G : hG (dC, dI) classes A s.heap [(h0, .inr (1, [.ref q1, .ref q2, .ref q3])), (q1, .inl (cJ, 64, .inr (.inl (fun _ => 0)))), (q2, .inl (cJ, 6, .inr (.inl (fun _ => 0)))), (q3, .inr (2, [.ref q4, .ref q5, .int 0])), (q4, .inl (cI, 20, .inl (fun _ => 0))), (q5, .inl (cJ, 30, .inr (.inl (fun _ => 0))))] H locs := ⟨hP, hD, hS⟩
  refine lv_iconst (v := 0) hx hb d_P_init_31 (by decide) ?_
  refine lv_istore_n (lv' := [(1, .int (0 : Int32)), (0, .ref h0)]) hx hb d_P_init_32 rfl hl (by decide) rfl (fun ls hl => ?_)
  refine lv_iload_n hx hb d_P_init_33 rfl (lv_at hl 0 rfl) ?_
  refine lv_bipush (v := (8 : Int32)) hx hb d_P_init_34 (by decide) ?_
  refine lv_icmp_ge (tgt := 57) hx hb d_P_init_36 (by decide) (fun c0 => absurd c0 (by decide)) (fun _ => ?_)
  refine lv_aload_n hx hb d_P_init_39 rfl (lv_at hl 1 rfl) ?_
  refine va_get (D := (dC, dI)) (ci := 1) (v := .ref q1) (C := R_P) (T := F_P) (N := 3) hx hb hts (fun w h => gm (i_P w h)) hown hK G.1 0 rfl rfl 0 (by decide) (hts _ (gm tw_46)) (fun _ h9 => h9) rfl d_P_init_40 ?_
  refine lv_bipush (v := (32 : Int32)) hx hb d_P_init_43 (by decide) ?_
  refine lv_iload_n hx hb d_P_init_45 rfl (lv_at hl 0 rfl) ?_
  refine lv_iadd hx hb d_P_init_46 ?_
  refine lv_topi (fun v1 e1 => ?_)
  obtain rfl : v1 = (32 : Int32) := by rw [e1]; decide
  refine lv_ldc2 (v := (4607182418800017408 : Int64)) hx hb hown (hts _ (gm tw_43)) d_P_init_47 ?_
  refine hg_last hx hb hK G 1 0 rfl rfl (in_of (by decide) (by decide)) d_P_init_50 [(h0, .inr (1, [.ref q1, .ref q2, .ref q3])), (q1, .inl (cJ, 64, .inr (.inl zP_init_0))), (q2, .inl (cJ, 6, .inr (.inl (fun _ => 0)))), (q3, .inr (2, [.ref q4, .ref q5, .int 0])), (q4, .inl (cI, 20, .inl (fun _ => 0))), (q5, .inl (cJ, 30, .inr (.inl (fun _ => 0))))] rfl (fun H locs G => ?_)
  refine lv_iinc (v := (1 : Int32)) (lv' := [(1, .int (1 : Int32)), (0, .ref h0)]) hx hb d_P_init_51 hl (k := 0) rfl (by decide) (by decide) rfl (fun ls hl => ?_)
  refine lv_goto (tgt := 33) hx hb d_P_init_54 (by decide) ?_
  refine lv_iload_n hx hb d_P_init_33 rfl (lv_at hl 0 rfl) ?_
  refine lv_bipush (v := (8 : Int32)) hx hb d_P_init_34 (by decide) ?_
  refine lv_icmp_ge (tgt := 57) hx hb d_P_init_36 (by decide) (fun c0 => absurd c0 (by decide)) (fun _ => ?_)
  refine lv_aload_n hx hb d_P_init_39 rfl (lv_at hl 1 rfl) ?_
  refine va_get (D := (dC, dI)) (ci := 1) (v := .ref q1) (C := R_P) (T := F_P) (N := 3) hx hb hts (fun w h => gm (i_P w h)) hown hK G.1 0 rfl rfl 0 (by decide) (hts _ (gm tw_46)) (fun _ h9 => h9) rfl d_P_init_40 ?_
  refine lv_bipush (v := (32 : Int32)) hx hb d_P_init_43 (by decide) ?_
  refine lv_iload_n hx hb d_P_init_45 rfl (lv_at hl 0 rfl) ?_
  refine lv_iadd hx hb d_P_init_46 ?_
  refine lv_topi (fun v2 e2 => ?_)
  obtain rfl : v2 = (33 : Int32) := by rw [e2]; decide
  refine lv_ldc2 (v := (4607182418800017408 : Int64)) hx hb hown (hts _ (gm tw_43)) d_P_init_47 ?_
  refine hg_last hx hb hK G 1 0 rfl rfl (in_of (by decide) (by decide)) d_P_init_50 [(h0, .inr (1, [.ref q1, .ref q2, .ref q3])), (q1, .inl (cJ, 64, .inr (.inl zP_init_1))), (q2, .inl (cJ, 6, .inr (.inl (fun _ => 0)))), (q3, .inr (2, [.ref q4, .ref q5, .int 0])), (q4, .inl (cI, 20, .inl (fun _ => 0))), (q5, .inl (cJ, 30, .inr (.inl (fun _ => 0))))] rfl (fun H locs G => ?_)
  refine lv_iinc (v := (2 : Int32)) (lv' := [(1, .int (2 : Int32)), (0, .ref h0)]) hx hb d_P_init_51 hl (k := 0) rfl (by decide) (by decide) rfl (fun ls hl => ?_)
  refine lv_goto (tgt := 33) hx hb d_P_init_54 (by decide) ?_
  refine lv_iload_n hx hb d_P_init_33 rfl (lv_at hl 0 rfl) ?_
  refine lv_bipush (v := (8 : Int32)) hx hb d_P_init_34 (by decide) ?_
  refine lv_icmp_ge (tgt := 57) hx hb d_P_init_36 (by decide) (fun c0 => absurd c0 (by decide)) (fun _ => ?_)
  refine lv_aload_n hx hb d_P_init_39 rfl (lv_at hl 1 rfl) ?_
  refine va_get (D := (dC, dI)) (ci := 1) (v := .ref q1) (C := R_P) (T := F_P) (N := 3) hx hb hts (fun w h => gm (i_P w h)) hown hK G.1 0 rfl rfl 0 (by decide) (hts _ (gm tw_46)) (fun _ h9 => h9) rfl d_P_init_40 ?_
  refine lv_bipush (v := (32 : Int32)) hx hb d_P_init_43 (by decide) ?_
  refine lv_iload_n hx hb d_P_init_45 rfl (lv_at hl 0 rfl) ?_
  refine lv_iadd hx hb d_P_init_46 ?_
  refine lv_topi (fun v3 e3 => ?_)
  obtain rfl : v3 = (34 : Int32) := by rw [e3]; decide
  refine lv_ldc2 (v := (4607182418800017408 : Int64)) hx hb hown (hts _ (gm tw_43)) d_P_init_47 ?_
  refine hg_last hx hb hK G 1 0 rfl rfl (in_of (by decide) (by decide)) d_P_init_50 [(h0, .inr (1, [.ref q1, .ref q2, .ref q3])), (q1, .inl (cJ, 64, .inr (.inl zP_init_2))), (q2, .inl (cJ, 6, .inr (.inl (fun _ => 0)))), (q3, .inr (2, [.ref q4, .ref q5, .int 0])), (q4, .inl (cI, 20, .inl (fun _ => 0))), (q5, .inl (cJ, 30, .inr (.inl (fun _ => 0))))] rfl (fun H locs G => ?_)
  refine lv_iinc (v := (3 : Int32)) (lv' := [(1, .int (3 : Int32)), (0, .ref h0)]) hx hb d_P_init_51 hl (k := 0) rfl (by decide) (by decide) rfl (fun ls hl => ?_)
  refine lv_goto (tgt := 33) hx hb d_P_init_54 (by decide) ?_
  refine lv_iload_n hx hb d_P_init_33 rfl (lv_at hl 0 rfl) ?_
  refine lv_bipush (v := (8 : Int32)) hx hb d_P_init_34 (by decide) ?_
  refine lv_icmp_ge (tgt := 57) hx hb d_P_init_36 (by decide) (fun c0 => absurd c0 (by decide)) (fun _ => ?_)
  refine lv_aload_n hx hb d_P_init_39 rfl (lv_at hl 1 rfl) ?_
  refine va_get (D := (dC, dI)) (ci := 1) (v := .ref q1) (C := R_P) (T := F_P) (N := 3) hx hb hts (fun w h => gm (i_P w h)) hown hK G.1 0 rfl rfl 0 (by decide) (hts _ (gm tw_46)) (fun _ h9 => h9) rfl d_P_init_40 ?_
  refine lv_bipush (v := (32 : Int32)) hx hb d_P_init_43 (by decide) ?_
  refine lv_iload_n hx hb d_P_init_45 rfl (lv_at hl 0 rfl) ?_
  refine lv_iadd hx hb d_P_init_46 ?_
  refine lv_topi (fun v4 e4 => ?_)
  obtain rfl : v4 = (35 : Int32) := by rw [e4]; decide
  refine lv_ldc2 (v := (4607182418800017408 : Int64)) hx hb hown (hts _ (gm tw_43)) d_P_init_47 ?_
  refine hg_last hx hb hK G 1 0 rfl rfl (in_of (by decide) (by decide)) d_P_init_50 [(h0, .inr (1, [.ref q1, .ref q2, .ref q3])), (q1, .inl (cJ, 64, .inr (.inl zP_init_3))), (q2, .inl (cJ, 6, .inr (.inl (fun _ => 0)))), (q3, .inr (2, [.ref q4, .ref q5, .int 0])), (q4, .inl (cI, 20, .inl (fun _ => 0))), (q5, .inl (cJ, 30, .inr (.inl (fun _ => 0))))] rfl (fun H locs G => ?_)
  refine lv_iinc (v := (4 : Int32)) (lv' := [(1, .int (4 : Int32)), (0, .ref h0)]) hx hb d_P_init_51 hl (k := 0) rfl (by decide) (by decide) rfl (fun ls hl => ?_)
  refine lv_goto (tgt := 33) hx hb d_P_init_54 (by decide) ?_
  refine lv_iload_n hx hb d_P_init_33 rfl (lv_at hl 0 rfl) ?_
  refine lv_bipush (v := (8 : Int32)) hx hb d_P_init_34 (by decide) ?_
  refine lv_icmp_ge (tgt := 57) hx hb d_P_init_36 (by decide) (fun c0 => absurd c0 (by decide)) (fun _ => ?_)
  refine lv_aload_n hx hb d_P_init_39 rfl (lv_at hl 1 rfl) ?_
  refine va_get (D := (dC, dI)) (ci := 1) (v := .ref q1) (C := R_P) (T := F_P) (N := 3) hx hb hts (fun w h => gm (i_P w h)) hown hK G.1 0 rfl rfl 0 (by decide) (hts _ (gm tw_46)) (fun _ h9 => h9) rfl d_P_init_40 ?_
  refine lv_bipush (v := (32 : Int32)) hx hb d_P_init_43 (by decide) ?_
  refine lv_iload_n hx hb d_P_init_45 rfl (lv_at hl 0 rfl) ?_
  refine lv_iadd hx hb d_P_init_46 ?_
  refine lv_topi (fun v5 e5 => ?_)
  obtain rfl : v5 = (36 : Int32) := by rw [e5]; decide
  refine lv_ldc2 (v := (4607182418800017408 : Int64)) hx hb hown (hts _ (gm tw_43)) d_P_init_47 ?_
  refine hg_last hx hb hK G 1 0 rfl rfl (in_of (by decide) (by decide)) d_P_init_50 [(h0, .inr (1, [.ref q1, .ref q2, .ref q3])), (q1, .inl (cJ, 64, .inr (.inl zP_init_4))), (q2, .inl (cJ, 6, .inr (.inl (fun _ => 0)))), (q3, .inr (2, [.ref q4, .ref q5, .int 0])), (q4, .inl (cI, 20, .inl (fun _ => 0))), (q5, .inl (cJ, 30, .inr (.inl (fun _ => 0))))] rfl (fun H locs G => ?_)
  refine lv_iinc (v := (5 : Int32)) (lv' := [(1, .int (5 : Int32)), (0, .ref h0)]) hx hb d_P_init_51 hl (k := 0) rfl (by decide) (by decide) rfl (fun ls hl => ?_)
  refine lv_goto (tgt := 33) hx hb d_P_init_54 (by decide) ?_
  refine lv_iload_n hx hb d_P_init_33 rfl (lv_at hl 0 rfl) ?_
  refine lv_bipush (v := (8 : Int32)) hx hb d_P_init_34 (by decide) ?_
  refine lv_icmp_ge (tgt := 57) hx hb d_P_init_36 (by decide) (fun c0 => absurd c0 (by decide)) (fun _ => ?_)
  refine lv_aload_n hx hb d_P_init_39 rfl (lv_at hl 1 rfl) ?_
  refine va_get (D := (dC, dI)) (ci := 1) (v := .ref q1) (C := R_P) (T := F_P) (N := 3) hx hb hts (fun w h => gm (i_P w h)) hown hK G.1 0 rfl rfl 0 (by decide) (hts _ (gm tw_46)) (fun _ h9 => h9) rfl d_P_init_40 ?_
  refine lv_bipush (v := (32 : Int32)) hx hb d_P_init_43 (by decide) ?_
  refine lv_iload_n hx hb d_P_init_45 rfl (lv_at hl 0 rfl) ?_
  refine lv_iadd hx hb d_P_init_46 ?_
  refine lv_topi (fun v6 e6 => ?_)
  obtain rfl : v6 = (37 : Int32) := by rw [e6]; decide
  refine lv_ldc2 (v := (4607182418800017408 : Int64)) hx hb hown (hts _ (gm tw_43)) d_P_init_47 ?_
  refine hg_last hx hb hK G 1 0 rfl rfl (in_of (by decide) (by decide)) d_P_init_50 [(h0, .inr (1, [.ref q1, .ref q2, .ref q3])), (q1, .inl (cJ, 64, .inr (.inl zP_init_5))), (q2, .inl (cJ, 6, .inr (.inl (fun _ => 0)))), (q3, .inr (2, [.ref q4, .ref q5, .int 0])), (q4, .inl (cI, 20, .inl (fun _ => 0))), (q5, .inl (cJ, 30, .inr (.inl (fun _ => 0))))] rfl (fun H locs G => ?_)
  refine lv_iinc (v := (6 : Int32)) (lv' := [(1, .int (6 : Int32)), (0, .ref h0)]) hx hb d_P_init_51 hl (k := 0) rfl (by decide) (by decide) rfl (fun ls hl => ?_)
  refine lv_goto (tgt := 33) hx hb d_P_init_54 (by decide) ?_
  refine lv_iload_n hx hb d_P_init_33 rfl (lv_at hl 0 rfl) ?_
  refine lv_bipush (v := (8 : Int32)) hx hb d_P_init_34 (by decide) ?_
  refine lv_icmp_ge (tgt := 57) hx hb d_P_init_36 (by decide) (fun c0 => absurd c0 (by decide)) (fun _ => ?_)
  refine lv_aload_n hx hb d_P_init_39 rfl (lv_at hl 1 rfl) ?_
  refine va_get (D := (dC, dI)) (ci := 1) (v := .ref q1) (C := R_P) (T := F_P) (N := 3) hx hb hts (fun w h => gm (i_P w h)) hown hK G.1 0 rfl rfl 0 (by decide) (hts _ (gm tw_46)) (fun _ h9 => h9) rfl d_P_init_40 ?_
  refine lv_bipush (v := (32 : Int32)) hx hb d_P_init_43 (by decide) ?_
  refine lv_iload_n hx hb d_P_init_45 rfl (lv_at hl 0 rfl) ?_
  refine lv_iadd hx hb d_P_init_46 ?_
  refine lv_topi (fun v7 e7 => ?_)
  obtain rfl : v7 = (38 : Int32) := by rw [e7]; decide
  refine lv_ldc2 (v := (4607182418800017408 : Int64)) hx hb hown (hts _ (gm tw_43)) d_P_init_47 ?_
  refine hg_last hx hb hK G 1 0 rfl rfl (in_of (by decide) (by decide)) d_P_init_50 [(h0, .inr (1, [.ref q1, .ref q2, .ref q3])), (q1, .inl (cJ, 64, .inr (.inl zP_init_6))), (q2, .inl (cJ, 6, .inr (.inl (fun _ => 0)))), (q3, .inr (2, [.ref q4, .ref q5, .int 0])), (q4, .inl (cI, 20, .inl (fun _ => 0))), (q5, .inl (cJ, 30, .inr (.inl (fun _ => 0))))] rfl (fun H locs G => ?_)
  refine lv_iinc (v := (7 : Int32)) (lv' := [(1, .int (7 : Int32)), (0, .ref h0)]) hx hb d_P_init_51 hl (k := 0) rfl (by decide) (by decide) rfl (fun ls hl => ?_)
  refine lv_goto (tgt := 33) hx hb d_P_init_54 (by decide) ?_
  refine lv_iload_n hx hb d_P_init_33 rfl (lv_at hl 0 rfl) ?_
  refine lv_bipush (v := (8 : Int32)) hx hb d_P_init_34 (by decide) ?_
  refine lv_icmp_ge (tgt := 57) hx hb d_P_init_36 (by decide) (fun c0 => absurd c0 (by decide)) (fun _ => ?_)
  refine lv_aload_n hx hb d_P_init_39 rfl (lv_at hl 1 rfl) ?_
  refine va_get (D := (dC, dI)) (ci := 1) (v := .ref q1) (C := R_P) (T := F_P) (N := 3) hx hb hts (fun w h => gm (i_P w h)) hown hK G.1 0 rfl rfl 0 (by decide) (hts _ (gm tw_46)) (fun _ h9 => h9) rfl d_P_init_40 ?_
  refine lv_bipush (v := (32 : Int32)) hx hb d_P_init_43 (by decide) ?_
  refine lv_iload_n hx hb d_P_init_45 rfl (lv_at hl 0 rfl) ?_
  refine lv_iadd hx hb d_P_init_46 ?_
  refine lv_topi (fun v8 e8 => ?_)
  obtain rfl : v8 = (39 : Int32) := by rw [e8]; decide
  refine lv_ldc2 (v := (4607182418800017408 : Int64)) hx hb hown (hts _ (gm tw_43)) d_P_init_47 ?_
  refine hg_last hx hb hK G 1 0 rfl rfl (in_of (by decide) (by decide)) d_P_init_50 [(h0, .inr (1, [.ref q1, .ref q2, .ref q3])), (q1, .inl (cJ, 64, .inr (.inl zP_init_7))), (q2, .inl (cJ, 6, .inr (.inl (fun _ => 0)))), (q3, .inr (2, [.ref q4, .ref q5, .int 0])), (q4, .inl (cI, 20, .inl (fun _ => 0))), (q5, .inl (cJ, 30, .inr (.inl (fun _ => 0))))] rfl (fun H locs G => ?_)
  refine lv_iinc (v := (8 : Int32)) (lv' := [(1, .int (8 : Int32)), (0, .ref h0)]) hx hb d_P_init_51 hl (k := 0) rfl (by decide) (by decide) rfl (fun ls hl => ?_)
  refine lv_goto (tgt := 33) hx hb d_P_init_54 (by decide) ?_
  refine lv_iload_n hx hb d_P_init_33 rfl (lv_at hl 0 rfl) ?_
  refine lv_bipush (v := (8 : Int32)) hx hb d_P_init_34 (by decide) ?_
  refine lv_icmp_ge (tgt := 57) hx hb d_P_init_36 (by decide) (fun _ => ?_) (fun c0 => absurd c0 (by decide))
  refine lv_aload_n hx hb d_P_init_57 rfl (lv_at hl 1 rfl) ?_
  refine va_get (D := (dC, dI)) (ci := 1) (v := .ref q2) (C := R_P) (T := F_P) (N := 3) hx hb hts (fun w h => gm (i_P w h)) hown hK G.1 0 rfl rfl 1 (by decide) (hts _ (gm tw_47)) (fun _ h9 => h9) rfl d_P_init_58 ?_
  refine lv_iconst (v := 3) hx hb d_P_init_61 (by decide) ?_
  refine lv_ldc2 (v := (4593671619917905920 : Int64)) hx hb hown (hts _ (gm tw_44)) d_P_init_62 ?_
  refine hg_last hx hb hK G 2 0 rfl rfl (in_of (by decide) (by decide)) d_P_init_65 [(h0, .inr (1, [.ref q1, .ref q2, .ref q3])), (q1, .inl (cJ, 64, .inr (.inl zP_init_7))), (q2, .inl (cJ, 6, .inr (.inl zP_init_8))), (q3, .inr (2, [.ref q4, .ref q5, .int 0])), (q4, .inl (cI, 20, .inl (fun _ => 0))), (q5, .inl (cJ, 30, .inr (.inl (fun _ => 0))))] rfl (fun H locs G => ?_)
  refine lv_aload_n hx hb d_P_init_66 rfl (lv_at hl 1 rfl) ?_
  refine va_get (D := (dC, dI)) (ci := 1) (v := .ref q2) (C := R_P) (T := F_P) (N := 3) hx hb hts (fun w h => gm (i_P w h)) hown hK G.1 0 rfl rfl 1 (by decide) (hts _ (gm tw_47)) (fun _ h9 => h9) rfl d_P_init_67 ?_
  refine lv_iconst (v := 4) hx hb d_P_init_70 (by decide) ?_
  refine lv_ldc2 (v := (9218868437227405312 : Int64)) hx hb hown (hts _ (gm tw_45)) d_P_init_71 ?_
  refine hg_last hx hb hK G 2 0 rfl rfl (in_of (by decide) (by decide)) d_P_init_74 [(h0, .inr (1, [.ref q1, .ref q2, .ref q3])), (q1, .inl (cJ, 64, .inr (.inl zP_init_7))), (q2, .inl (cJ, 6, .inr (.inl zP_init_9))), (q3, .inr (2, [.ref q4, .ref q5, .int 0])), (q4, .inl (cI, 20, .inl (fun _ => 0))), (q5, .inl (cJ, 30, .inr (.inl (fun _ => 0))))] rfl (fun H locs G => ?_)
  refine lv_aload_n hx hb d_P_init_75 rfl (lv_at hl 1 rfl) ?_
  refine va_get (D := (dC, dI)) (ci := 1) (v := .ref q2) (C := R_P) (T := F_P) (N := 3) hx hb hts (fun w h => gm (i_P w h)) hown hK G.1 0 rfl rfl 1 (by decide) (hts _ (gm tw_47)) (fun _ h9 => h9) rfl d_P_init_76 ?_
  refine lv_iconst (v := 5) hx hb d_P_init_79 (by decide) ?_
  refine lv_ldc2 (v := (4607182418800017408 : Int64)) hx hb hown (hts _ (gm tw_43)) d_P_init_80 ?_
  refine hg_last hx hb hK G 2 0 rfl rfl (in_of (by decide) (by decide)) d_P_init_83 [(h0, .inr (1, [.ref q1, .ref q2, .ref q3])), (q1, .inl (cJ, 64, .inr (.inl zP_init_7))), (q2, .inl (cJ, 6, .inr (.inl zP_init_10))), (q3, .inr (2, [.ref q4, .ref q5, .int 0])), (q4, .inl (cI, 20, .inl (fun _ => 0))), (q5, .inl (cJ, 30, .inr (.inl (fun _ => 0))))] rfl (fun H locs G => ?_)
  have hp : zp_P_init cJ cI h0 [(h0, .inr (1, [.ref q1, .ref q2, .ref q3])), (q1, .inl (cJ, 64, .inr (.inl zP_init_7))), (q2, .inl (cJ, 6, .inr (.inl zP_init_10))), (q3, .inr (2, [.ref q4, .ref q5, .int 0])), (q4, .inl (cI, 20, .inl (fun _ => 0))), (q5, .inl (cJ, 30, .inr (.inl (fun _ => 0))))] := ⟨_, _, _, _, _, rfl⟩
  exact hg_nret hx hb hr hlocks hK hAe G hp d_P_init_84
-- ===== MotionLab.<init>
abbrev y_L_init : MethodName := ⟨"MotionLab", "<init>", "()V"⟩
abbrev b_L_init : ByteArray := prog_1_method_1_code
theorem d_L_init_0 : decode b_L_init 0 = .ok (.aload_n 0, 1) := by decide +kernel
theorem d_L_init_1 : decode b_L_init 1 = .ok (.invokespecial 1, 3) := by decide +kernel
theorem d_L_init_4 : decode b_L_init 4 = .ok (.aload_n 0, 1) := by decide +kernel
theorem d_L_init_5 : decode b_L_init 5 = .ok (.new 7, 3) := by decide +kernel
theorem d_L_init_8 : decode b_L_init 8 = .ok (.dup, 1) := by decide +kernel
theorem d_L_init_9 : decode b_L_init 9 = .ok (.invokespecial 9, 3) := by decide +kernel
theorem d_L_init_12 : decode b_L_init 12 = .ok (.putfield 10, 3) := by decide +kernel
theorem d_L_init_15 : decode b_L_init 15 = .ok (.aload_n 0, 1) := by decide +kernel
theorem d_L_init_16 : decode b_L_init 16 = .ok (.bipush 8, 2) := by decide +kernel
theorem d_L_init_18 : decode b_L_init 18 = .ok (.newarray .long, 2) := by decide +kernel
theorem d_L_init_20 : decode b_L_init 20 = .ok (.putfield 16, 3) := by decide +kernel
theorem d_L_init_23 : decode b_L_init 23 = .ok (.return_, 1) := by decide +kernel
def zS0 : CS := (zR0, zF0, (fun _ => 0), (fun _ => 0), (fun _ => 0), 0)
def zp_L_init (cJ cI : ClassId) (h0 : Nat) (u : va_W) : Prop := ∃ ad : Nat → Nat, ad 0 = h0 ∧ u = cW ad cJ cI zS0
set_option maxHeartbeats 4000000 in
set_option maxRecDepth 100000 in
theorem c_L_init (l : Launch) (dC : Nat → ClassId) (dI : Nat → Nat → Nat) (cJ cI : ClassId) (h0 sz : Nat) : Met l y_L_init (gw y_L_init b_L_init 1 none) { frames := 3, cells := 7, slots := 134, locals := 53 } (va_Pc [.ref h0] (hPr (dC, dI) classes (tysJI cJ cI) (fun U => va_Nw (.methodLinkNest "MotionLab$Plane" 18 ⟨"MotionLab$Springs", "<init>", "()V"⟩ "MotionLab") U) [(h0, .inr (0, [.null, .null]))] sz)) (va_Qv (zp_L_init cJ cI h0) (hBk (dC, dI) classes (tysJI cJ cI) [(h0, .inr (0, [.null, .null]))] sz) (va_A [(h0, .inr (0, [.null, .null]))] sz)) 7 134 (va_A [(h0, .inr (0, [.null, .null]))] sz) := by
  refine Met.ofW (cc := b_L_init) (maxL := 1) (ret := none) (by decide) rfl ?_
  intro p e s m args below meth c s₁ B hml hv
  obtain ⟨rfl, hsz, hP, hK, hD0, hE⟩ := hv
  have hx := B.exec
  have hb := B.bytes
  have hr := B.returns
  have hts := atoms_spec (ws := (gw y_L_init b_L_init 1 none)) B.pre
  have hown : s.vm.findClass "MotionLab" = some m.cls := findClass_of_methodNamed B.named
  have hlocks := B.notSynchronized
  have hin : meth.name = "<init>" := (name_of_methodNamed B.named B.method).1
  subst hsz
  have hD := hD0.self (sz := s.heap.size)
  generalize hAe : va_A [(h0, .inr (0, [.null, .null]))] s.heap.size = A at hD
  have hA : ∀ q : Nat, s.heap.size ≤ q → A q := fun q h => by rw [← hAe]; exact Or.inr h
  have G : hG (dC, dI) classes A s.heap [(h0, .inr (0, [.null, .null]))] s.heap [] := ⟨hP, hD, va_S.rf⟩
  have hl := lv_entry ([.ref h0]) (n := 1) (Nat.le_of_ble_eq_true rfl)
  rw [lg_entry_eq]
  generalize (lg_sl ([.ref h0]) ++ List.replicate (1 - (lg_sl ([.ref h0])).length) Slot.unset).toArray = ls at hl ⊢
  have hl : lv_has ls 1 [(0, .ref h0)] := hl
  refine lv_aload_n hx hb d_L_init_0 rfl (lv_at hl 0 rfl) ?_
  refine W.objInit hx hb hown (hts _ (gm tw_14)) (hts _ (gm tw_15)) (hts _ (gm tw_16)) rfl (by rw [hml]; exact hl.1) rfl d_L_init_1 (Nat.le_of_ble_eq_true rfl) (Nat.le_of_ble_eq_true rfl) ?_
  refine W.eq (g2 := F0 m 4 ls []) rfl ?_
  refine lv_aload_n hx hb d_L_init_4 rfl (lv_at hl 0 rfl) ?_
  refine va_new (ci := 1) (fs := [.null, .null, .null]) (C := R_P) (T := F_P) (N := 3) hx hb hts (fun w h => gm (i_P w h)) t_P t_P_ok hown (hts _ (gm tw_17)) (hts _ (gm tw_18)) (hts _ (gm tw_2)) hK G.1 G.2.1 G.2.2 hA rfl (fun j hj => by rcases (show j = 0 ∨ j = 1 ∨ j = 2 by omega) with rfl | rfl | rfl <;> rfl) (Nat.le_of_ble_eq_true rfl) (Nat.le_of_ble_eq_true rfl) d_L_init_5 (fun q1 H hP hD hS => ?_)
  have G : hG (dC, dI) classes A s.heap [(h0, .inr (0, [.null, .null])), (q1, .inr (1, [.null, .null, .null]))] H _ := ⟨hP, hD, hS⟩
  refine W.widen (k := 1) (n := 3) (by decide) (by decide) ?_
  refine lv_dup hx hb d_L_init_8 rfl ?_
  have G : hG (dC, dI) classes A s.heap ([(q1, .inr (1, [.null, .null, .null]))] ++ [(h0, .inr (0, [.null, .null]))]) H _ := ⟨G.1.sub [1, 0] rfl, G.2.1.sub [1, 0] (by decide) rfl, G.2.2⟩
  refine hg2_init (As := []) (rest := [.ref q1, .ref h0]) (wa := [(q1, .inr (1, [.null, .null, .null]))]) (wb := [(h0, .inr (0, [.null, .null]))]) ⟨hx, hb, hml, hown, hts⟩ (c_P_init l dC dI cJ cI q1 _) (gq_callI (k := 0) (fun w h => gm h) hts tw_19 tw_20 tw_2 tw_21 rfl (by decide +kernel) rfl rfl ⟨Nat.le_of_ble_eq_true rfl, Nat.le_of_ble_eq_true rfl⟩) hK G hA (hx_N hE) rfl hl.1 rfl (Nat.le_of_ble_eq_true rfl) ⟨Nat.le_of_ble_eq_true rfl, Nat.le_of_ble_eq_true rfl⟩ d_L_init_9 (fun u H locs hu G => ?_)
  obtain ⟨q2, q3, q4, q5, q6, rfl⟩ := hu
  have G : hG (dC, dI) classes A s.heap [(h0, .inr (0, [.null, .null])), (q1, .inr (1, [.ref q2, .ref q3, .ref q4])), (q2, .inl (cJ, 64, .inr (.inl zR0))), (q3, .inl (cJ, 6, .inr (.inl zF0))), (q4, .inr (2, [.ref q5, .ref q6, .int 0])), (q5, .inl (cI, 20, .inl (fun _ => 0))), (q6, .inl (cJ, 30, .inr (.inl (fun _ => 0))))] H locs := G
  refine W.widen (k := 6) (n := 126) (by decide) (by decide) ?_
  refine va_putF (D := (dC, dI)) (ci := 0) (v := .ref q1) (ty := (.object "MotionLab$Plane")) (C := R_L) (T := F_L) (N := 2) hx hb hts (fun w h => gm (i_L w h)) t_L t_L_ok n_L hown hK G.1 G.2.1 G.2.2 0 rfl rfl 0 (by decide) (hts _ (gm tw_57)) (fun _ h9 => h9) rfl hin rfl (by decide +kernel) rfl rfl (Nat.le_of_ble_eq_true rfl) d_L_init_12 (fun H locs hP hD hS => ?_)
  have G : hG (dC, dI) classes A s.heap [(h0, .inr (0, [.ref q1, .null])), (q1, .inr (1, [.ref q2, .ref q3, .ref q4])), (q2, .inl (cJ, 64, .inr (.inl zR0))), (q3, .inl (cJ, 6, .inr (.inl zF0))), (q4, .inr (2, [.ref q5, .ref q6, .int 0])), (q5, .inl (cI, 20, .inl (fun _ => 0))), (q6, .inl (cJ, 30, .inr (.inl (fun _ => 0))))] H locs := ⟨hP, hD, hS⟩
  refine lv_aload_n hx hb d_L_init_15 rfl (lv_at hl 0 rfl) ?_
  refine lv_bipush (v := (8 : Int32)) hx hb d_L_init_16 (by decide) ?_
  refine hg_newJ hx hb (hts _ (gm tw_41)) hK G hA (N := 8) (by decide) (by decide) (by decide) (Nat.le_of_ble_eq_true rfl) (Nat.le_of_ble_eq_true rfl) d_L_init_18 (fun q7 H G => ?_)
  have G : hG (dC, dI) classes A s.heap [(h0, .inr (0, [.ref q1, .null])), (q1, .inr (1, [.ref q2, .ref q3, .ref q4])), (q2, .inl (cJ, 64, .inr (.inl zR0))), (q3, .inl (cJ, 6, .inr (.inl zF0))), (q4, .inr (2, [.ref q5, .ref q6, .int 0])), (q5, .inl (cI, 20, .inl (fun _ => 0))), (q6, .inl (cJ, 30, .inr (.inl (fun _ => 0)))), (q7, .inl (cJ, 8, .inr (.inl (fun _ => 0))))] H _ := G
  refine W.widen (k := 7) (n := 134) (by decide) (by decide) ?_
  refine va_putF (D := (dC, dI)) (ci := 0) (v := .ref q7) (ty := (.array .long)) (C := R_L) (T := F_L) (N := 2) hx hb hts (fun w h => gm (i_L w h)) t_L t_L_ok n_L hown hK G.1 G.2.1 G.2.2 0 rfl rfl 1 (by decide) (hts _ (gm tw_58)) (fun _ h9 => h9) rfl hin rfl (by decide +kernel) rfl rfl (Nat.le_of_ble_eq_true rfl) d_L_init_20 (fun H locs hP hD hS => ?_)
  have G : hG (dC, dI) classes A s.heap [(h0, .inr (0, [.ref q1, .ref q7])), (q1, .inr (1, [.ref q2, .ref q3, .ref q4])), (q2, .inl (cJ, 64, .inr (.inl zR0))), (q3, .inl (cJ, 6, .inr (.inl zF0))), (q4, .inr (2, [.ref q5, .ref q6, .int 0])), (q5, .inl (cI, 20, .inl (fun _ => 0))), (q6, .inl (cJ, 30, .inr (.inl (fun _ => 0)))), (q7, .inl (cJ, 8, .inr (.inl (fun _ => 0))))] H locs := ⟨hP, hD, hS⟩
  have G : hG (dC, dI) classes A s.heap (cW (fun k => match k with | 0 => h0 | 1 => q1 | 2 => q7 | 3 => q2 | 4 => q3 | 5 => q4 | 6 => q5 | _ => q6) cJ cI zS0) _ _ := ⟨G.1.sub [0, 1, 7, 2, 3, 4, 5, 6] rfl, G.2.1.sub [0, 1, 7, 2, 3, 4, 5, 6] (by decide) rfl, G.2.2⟩
  have hp : zp_L_init cJ cI h0 (cW (fun k => match k with | 0 => h0 | 1 => q1 | 2 => q7 | 3 => q2 | 4 => q3 | 5 => q4 | 6 => q5 | _ => q6) cJ cI zS0) := ⟨(fun k => match k with | 0 => h0 | 1 => q1 | 2 => q7 | 3 => q2 | 4 => q3 | 5 => q4 | 6 => q5 | _ => q6), rfl, rfl⟩
  exact hg_nret hx hb hr hlocks hK hAe G hp d_L_init_23
-- ===== MotionLabModel.<init>
abbrev y_M_init : MethodName := ⟨"MotionLabModel", "<init>", "()V"⟩
abbrev b_M_init : ByteArray := prog_6_method_31_code
theorem d_M_init_0 : decode b_M_init 0 = .ok (.aload_n 0, 1) := by decide +kernel
theorem d_M_init_1 : decode b_M_init 1 = .ok (.invokespecial 127, 3) := by decide +kernel
theorem d_M_init_4 : decode b_M_init 4 = .ok (.aload_n 0, 1) := by decide +kernel
theorem d_M_init_5 : decode b_M_init 5 = .ok (.bipush 8, 2) := by decide +kernel
theorem d_M_init_7 : decode b_M_init 7 = .ok (.newarray .long, 2) := by decide +kernel
theorem d_M_init_9 : decode b_M_init 9 = .ok (.putfield 133, 3) := by decide +kernel
theorem d_M_init_12 : decode b_M_init 12 = .ok (.aload_n 0, 1) := by decide +kernel
theorem d_M_init_13 : decode b_M_init 13 = .ok (.bipush 8, 2) := by decide +kernel
theorem d_M_init_15 : decode b_M_init 15 = .ok (.newarray .long, 2) := by decide +kernel
theorem d_M_init_17 : decode b_M_init 17 = .ok (.putfield 137, 3) := by decide +kernel
theorem d_M_init_20 : decode b_M_init 20 = .ok (.aload_n 0, 1) := by decide +kernel
theorem d_M_init_21 : decode b_M_init 21 = .ok (.bipush 8, 2) := by decide +kernel
theorem d_M_init_23 : decode b_M_init 23 = .ok (.newarray .long, 2) := by decide +kernel
theorem d_M_init_25 : decode b_M_init 25 = .ok (.putfield 140, 3) := by decide +kernel
theorem d_M_init_28 : decode b_M_init 28 = .ok (.aload_n 0, 1) := by decide +kernel
theorem d_M_init_29 : decode b_M_init 29 = .ok (.bipush 8, 2) := by decide +kernel
theorem d_M_init_31 : decode b_M_init 31 = .ok (.newarray .long, 2) := by decide +kernel
theorem d_M_init_33 : decode b_M_init 33 = .ok (.putfield 143, 3) := by decide +kernel
theorem d_M_init_36 : decode b_M_init 36 = .ok (.aload_n 0, 1) := by decide +kernel
theorem d_M_init_37 : decode b_M_init 37 = .ok (.bipush 8, 2) := by decide +kernel
theorem d_M_init_39 : decode b_M_init 39 = .ok (.newarray .long, 2) := by decide +kernel
theorem d_M_init_41 : decode b_M_init 41 = .ok (.putfield 146, 3) := by decide +kernel
theorem d_M_init_44 : decode b_M_init 44 = .ok (.aload_n 0, 1) := by decide +kernel
theorem d_M_init_45 : decode b_M_init 45 = .ok (.bipush 8, 2) := by decide +kernel
theorem d_M_init_47 : decode b_M_init 47 = .ok (.newarray .long, 2) := by decide +kernel
theorem d_M_init_49 : decode b_M_init 49 = .ok (.putfield 149, 3) := by decide +kernel
theorem d_M_init_52 : decode b_M_init 52 = .ok (.aload_n 0, 1) := by decide +kernel
theorem d_M_init_53 : decode b_M_init 53 = .ok (.bipush 8, 2) := by decide +kernel
theorem d_M_init_55 : decode b_M_init 55 = .ok (.newarray .long, 2) := by decide +kernel
theorem d_M_init_57 : decode b_M_init 57 = .ok (.putfield 152, 3) := by decide +kernel
theorem d_M_init_60 : decode b_M_init 60 = .ok (.aload_n 0, 1) := by decide +kernel
theorem d_M_init_61 : decode b_M_init 61 = .ok (.bipush 8, 2) := by decide +kernel
theorem d_M_init_63 : decode b_M_init 63 = .ok (.newarray .long, 2) := by decide +kernel
theorem d_M_init_65 : decode b_M_init 65 = .ok (.putfield 155, 3) := by decide +kernel
theorem d_M_init_68 : decode b_M_init 68 = .ok (.aload_n 0, 1) := by decide +kernel
theorem d_M_init_69 : decode b_M_init 69 = .ok (.ldc2_w 158, 3) := by decide +kernel
theorem d_M_init_72 : decode b_M_init 72 = .ok (.putfield 160, 3) := by decide +kernel
theorem d_M_init_75 : decode b_M_init 75 = .ok (.aload_n 0, 1) := by decide +kernel
theorem d_M_init_76 : decode b_M_init 76 = .ok (.ldc2_w 7, 3) := by decide +kernel
theorem d_M_init_79 : decode b_M_init 79 = .ok (.putfield 164, 3) := by decide +kernel
theorem d_M_init_82 : decode b_M_init 82 = .ok (.aload_n 0, 1) := by decide +kernel
theorem d_M_init_83 : decode b_M_init 83 = .ok (.ldc2_w 167, 3) := by decide +kernel
theorem d_M_init_86 : decode b_M_init 86 = .ok (.putfield 169, 3) := by decide +kernel
theorem d_M_init_89 : decode b_M_init 89 = .ok (.aload_n 0, 1) := by decide +kernel
theorem d_M_init_90 : decode b_M_init 90 = .ok (.bipush 10, 2) := by decide +kernel
theorem d_M_init_92 : decode b_M_init 92 = .ok (.newarray .int, 2) := by decide +kernel
theorem d_M_init_94 : decode b_M_init 94 = .ok (.putfield 172, 3) := by decide +kernel
theorem d_M_init_97 : decode b_M_init 97 = .ok (.aload_n 0, 1) := by decide +kernel
theorem d_M_init_98 : decode b_M_init 98 = .ok (.bipush 10, 2) := by decide +kernel
theorem d_M_init_100 : decode b_M_init 100 = .ok (.newarray .int, 2) := by decide +kernel
theorem d_M_init_102 : decode b_M_init 102 = .ok (.putfield 175, 3) := by decide +kernel
theorem d_M_init_105 : decode b_M_init 105 = .ok (.aload_n 0, 1) := by decide +kernel
theorem d_M_init_106 : decode b_M_init 106 = .ok (.bipush 10, 2) := by decide +kernel
theorem d_M_init_108 : decode b_M_init 108 = .ok (.newarray .long, 2) := by decide +kernel
theorem d_M_init_110 : decode b_M_init 110 = .ok (.putfield 178, 3) := by decide +kernel
theorem d_M_init_113 : decode b_M_init 113 = .ok (.aload_n 0, 1) := by decide +kernel
theorem d_M_init_114 : decode b_M_init 114 = .ok (.bipush 10, 2) := by decide +kernel
theorem d_M_init_116 : decode b_M_init 116 = .ok (.newarray .long, 2) := by decide +kernel
theorem d_M_init_118 : decode b_M_init 118 = .ok (.putfield 181, 3) := by decide +kernel
theorem d_M_init_121 : decode b_M_init 121 = .ok (.aload_n 0, 1) := by decide +kernel
theorem d_M_init_122 : decode b_M_init 122 = .ok (.bipush 10, 2) := by decide +kernel
theorem d_M_init_124 : decode b_M_init 124 = .ok (.newarray .long, 2) := by decide +kernel
theorem d_M_init_126 : decode b_M_init 126 = .ok (.putfield 184, 3) := by decide +kernel
theorem d_M_init_129 : decode b_M_init 129 = .ok (.aload_n 0, 1) := by decide +kernel
theorem d_M_init_130 : decode b_M_init 130 = .ok (.bipush 8, 2) := by decide +kernel
theorem d_M_init_132 : decode b_M_init 132 = .ok (.newarray .long, 2) := by decide +kernel
theorem d_M_init_134 : decode b_M_init 134 = .ok (.putfield 187, 3) := by decide +kernel
theorem d_M_init_137 : decode b_M_init 137 = .ok (.iconst 0, 1) := by decide +kernel
theorem d_M_init_138 : decode b_M_init 138 = .ok (.istore_n 1, 1) := by decide +kernel
theorem d_M_init_139 : decode b_M_init 139 = .ok (.iload_n 1, 1) := by decide +kernel
theorem d_M_init_140 : decode b_M_init 140 = .ok (.bipush 8, 2) := by decide +kernel
theorem d_M_init_142 : decode b_M_init 142 = .ok (.if_icmp .ge 18, 3) := by decide +kernel
theorem d_M_init_145 : decode b_M_init 145 = .ok (.aload_n 0, 1) := by decide +kernel
theorem d_M_init_146 : decode b_M_init 146 = .ok (.getfield 146, 3) := by decide +kernel
theorem d_M_init_149 : decode b_M_init 149 = .ok (.iload_n 1, 1) := by decide +kernel
theorem d_M_init_150 : decode b_M_init 150 = .ok (.ldc2_w 167, 3) := by decide +kernel
theorem d_M_init_153 : decode b_M_init 153 = .ok (.lastore, 1) := by decide +kernel
theorem d_M_init_154 : decode b_M_init 154 = .ok (.iinc 1 1, 3) := by decide +kernel
theorem d_M_init_157 : decode b_M_init 157 = .ok (.goto (-18), 3) := by decide +kernel
theorem d_M_init_160 : decode b_M_init 160 = .ok (.return_, 1) := by decide +kernel
def zM_init_0 : Nat → Int64 := vp_updL (fun _ => 0) (0 : Int32).toNatClampNeg (1065353216 : Int64)
def zM_init_1 : Nat → Int64 := vp_updL zM_init_0 (1 : Int32).toNatClampNeg (1065353216 : Int64)
def zM_init_2 : Nat → Int64 := vp_updL zM_init_1 (2 : Int32).toNatClampNeg (1065353216 : Int64)
def zM_init_3 : Nat → Int64 := vp_updL zM_init_2 (3 : Int32).toNatClampNeg (1065353216 : Int64)
def zM_init_4 : Nat → Int64 := vp_updL zM_init_3 (4 : Int32).toNatClampNeg (1065353216 : Int64)
def zM_init_5 : Nat → Int64 := vp_updL zM_init_4 (5 : Int32).toNatClampNeg (1065353216 : Int64)
def zM_init_6 : Nat → Int64 := vp_updL zM_init_5 (6 : Int32).toNatClampNeg (1065353216 : Int64)
def zM_init_7 : Nat → Int64 := vp_updL zM_init_6 (7 : Int32).toNatClampNeg (1065353216 : Int64)
def zM0 : MS := ((fun _ => 0), (fun _ => 0), (fun _ => 0), (fun _ => 0), zM_init_7, (fun _ => 0), (fun _ => 0), (fun _ => 0), 0, 0, 0, (1040187392 : Int64), (9218868437227405312 : Int64), (1065353216 : Int64), (fun _ => 0), (fun _ => 0), (fun _ => 0), (fun _ => 0), (fun _ => 0), 0, (fun _ => 0))
def zp_M_init (cJ cI : ClassId) (h0 : Nat) (u : va_W) : Prop := ∃ ad : Nat → Nat, ad 0 = h0 ∧ u = mW ad cJ cI zM0
set_option maxHeartbeats 4000000 in
set_option maxRecDepth 100000 in
theorem c_M_init (l : Launch) (dC : Nat → ClassId) (dI : Nat → Nat → Nat) (cJ cI : ClassId) (h0 sz : Nat) : Met l y_M_init (gw y_M_init b_M_init 2 none) { frames := 1, cells := 14, slots := 122, locals := 12 } (va_Pc [.ref h0] (hPr (dC, dI) classes (tysJI cJ cI) (fun _ => True) [(h0, .inr (3, [.null, .null, .null, .null, .null, .null, .null, .null, .long 0, .long 0, .long 0, .long 0, .long 0, .long 0, .null, .null, .null, .null, .null, .int 0, .null]))] sz)) (va_Qv (zp_M_init cJ cI h0) (hBk (dC, dI) classes (tysJI cJ cI) [(h0, .inr (3, [.null, .null, .null, .null, .null, .null, .null, .null, .long 0, .long 0, .long 0, .long 0, .long 0, .long 0, .null, .null, .null, .null, .null, .int 0, .null]))] sz) (va_A [(h0, .inr (3, [.null, .null, .null, .null, .null, .null, .null, .null, .long 0, .long 0, .long 0, .long 0, .long 0, .long 0, .null, .null, .null, .null, .null, .int 0, .null]))] sz)) 14 122 (va_A [(h0, .inr (3, [.null, .null, .null, .null, .null, .null, .null, .null, .long 0, .long 0, .long 0, .long 0, .long 0, .long 0, .null, .null, .null, .null, .null, .int 0, .null]))] sz) := by
  refine Met.ofW (cc := b_M_init) (maxL := 2) (ret := none) (by decide) rfl ?_
  intro p e s m args below meth c s₁ B hml hv
  obtain ⟨rfl, hsz, hP, hK, hD0, hE⟩ := hv
  have hx := B.exec
  have hb := B.bytes
  have hr := B.returns
  have hts := atoms_spec (ws := (gw y_M_init b_M_init 2 none)) B.pre
  have hown : s.vm.findClass "MotionLabModel" = some m.cls := findClass_of_methodNamed B.named
  have hlocks := B.notSynchronized
  have hin : meth.name = "<init>" := (name_of_methodNamed B.named B.method).1
  subst hsz
  have hD := hD0.self (sz := s.heap.size)
  generalize hAe : va_A [(h0, .inr (3, [.null, .null, .null, .null, .null, .null, .null, .null, .long 0, .long 0, .long 0, .long 0, .long 0, .long 0, .null, .null, .null, .null, .null, .int 0, .null]))] s.heap.size = A at hD
  have hA : ∀ q : Nat, s.heap.size ≤ q → A q := fun q h => by rw [← hAe]; exact Or.inr h
  have G : hG (dC, dI) classes A s.heap [(h0, .inr (3, [.null, .null, .null, .null, .null, .null, .null, .null, .long 0, .long 0, .long 0, .long 0, .long 0, .long 0, .null, .null, .null, .null, .null, .int 0, .null]))] s.heap [] := ⟨hP, hD, va_S.rf⟩
  have hl := lv_entry ([.ref h0]) (n := 2) (Nat.le_of_ble_eq_true rfl)
  rw [lg_entry_eq]
  generalize (lg_sl ([.ref h0]) ++ List.replicate (2 - (lg_sl ([.ref h0])).length) Slot.unset).toArray = ls at hl ⊢
  have hl : lv_has ls 2 [(0, .ref h0)] := hl
  refine lv_aload_n hx hb d_M_init_0 rfl (lv_at hl 0 rfl) ?_
  refine W.objInit hx hb hown (hts _ (gm tw_417)) (hts _ (gm tw_15)) (hts _ (gm tw_16)) rfl (by rw [hml]; exact hl.1) rfl d_M_init_1 (Nat.le_of_ble_eq_true rfl) (Nat.le_of_ble_eq_true rfl) ?_
  refine W.eq (g2 := F0 m 4 ls []) rfl ?_
  refine lv_aload_n hx hb d_M_init_4 rfl (lv_at hl 0 rfl) ?_
  refine lv_bipush (v := (8 : Int32)) hx hb d_M_init_5 (by decide) ?_
  refine hg_newJ hx hb (hts _ (gm tw_41)) hK G hA (N := 8) (by decide) (by decide) (by decide) (Nat.le_of_ble_eq_true rfl) (Nat.le_of_ble_eq_true rfl) d_M_init_7 (fun q1 H G => ?_)
  have G : hG (dC, dI) classes A s.heap [(h0, .inr (3, [.null, .null, .null, .null, .null, .null, .null, .null, .long 0, .long 0, .long 0, .long 0, .long 0, .long 0, .null, .null, .null, .null, .null, .int 0, .null])), (q1, .inl (cJ, 8, .inr (.inl (fun _ => 0))))] H _ := G
  refine W.widen (k := 1) (n := 8) (by decide) (by decide) ?_
  refine va_putF (D := (dC, dI)) (ci := 3) (v := .ref q1) (ty := (.array .long)) (C := R_M) (T := F_M) (N := 21) hx hb hts (fun w h => gm (i_M w h)) t_M t_M_ok n_M hown hK G.1 G.2.1 G.2.2 0 rfl rfl 0 (by decide) (hts _ (gm tw_421)) (fun _ h9 => h9) rfl hin rfl (by decide +kernel) rfl rfl (Nat.le_of_ble_eq_true rfl) d_M_init_9 (fun H locs hP hD hS => ?_)
  have G : hG (dC, dI) classes A s.heap [(h0, .inr (3, [.ref q1, .null, .null, .null, .null, .null, .null, .null, .long 0, .long 0, .long 0, .long 0, .long 0, .long 0, .null, .null, .null, .null, .null, .int 0, .null])), (q1, .inl (cJ, 8, .inr (.inl (fun _ => 0))))] H locs := ⟨hP, hD, hS⟩
  refine lv_aload_n hx hb d_M_init_12 rfl (lv_at hl 0 rfl) ?_
  refine lv_bipush (v := (8 : Int32)) hx hb d_M_init_13 (by decide) ?_
  refine hg_newJ hx hb (hts _ (gm tw_41)) hK G hA (N := 8) (by decide) (by decide) (by decide) (Nat.le_of_ble_eq_true rfl) (Nat.le_of_ble_eq_true rfl) d_M_init_15 (fun q2 H G => ?_)
  have G : hG (dC, dI) classes A s.heap [(h0, .inr (3, [.ref q1, .null, .null, .null, .null, .null, .null, .null, .long 0, .long 0, .long 0, .long 0, .long 0, .long 0, .null, .null, .null, .null, .null, .int 0, .null])), (q1, .inl (cJ, 8, .inr (.inl (fun _ => 0)))), (q2, .inl (cJ, 8, .inr (.inl (fun _ => 0))))] H _ := G
  refine W.widen (k := 2) (n := 16) (by decide) (by decide) ?_
  refine va_putF (D := (dC, dI)) (ci := 3) (v := .ref q2) (ty := (.array .long)) (C := R_M) (T := F_M) (N := 21) hx hb hts (fun w h => gm (i_M w h)) t_M t_M_ok n_M hown hK G.1 G.2.1 G.2.2 0 rfl rfl 1 (by decide) (hts _ (gm tw_422)) (fun _ h9 => h9) rfl hin rfl (by decide +kernel) rfl rfl (Nat.le_of_ble_eq_true rfl) d_M_init_17 (fun H locs hP hD hS => ?_)
  have G : hG (dC, dI) classes A s.heap [(h0, .inr (3, [.ref q1, .ref q2, .null, .null, .null, .null, .null, .null, .long 0, .long 0, .long 0, .long 0, .long 0, .long 0, .null, .null, .null, .null, .null, .int 0, .null])), (q1, .inl (cJ, 8, .inr (.inl (fun _ => 0)))), (q2, .inl (cJ, 8, .inr (.inl (fun _ => 0))))] H locs := ⟨hP, hD, hS⟩
  refine lv_aload_n hx hb d_M_init_20 rfl (lv_at hl 0 rfl) ?_
  refine lv_bipush (v := (8 : Int32)) hx hb d_M_init_21 (by decide) ?_
  refine hg_newJ hx hb (hts _ (gm tw_41)) hK G hA (N := 8) (by decide) (by decide) (by decide) (Nat.le_of_ble_eq_true rfl) (Nat.le_of_ble_eq_true rfl) d_M_init_23 (fun q3 H G => ?_)
  have G : hG (dC, dI) classes A s.heap [(h0, .inr (3, [.ref q1, .ref q2, .null, .null, .null, .null, .null, .null, .long 0, .long 0, .long 0, .long 0, .long 0, .long 0, .null, .null, .null, .null, .null, .int 0, .null])), (q1, .inl (cJ, 8, .inr (.inl (fun _ => 0)))), (q2, .inl (cJ, 8, .inr (.inl (fun _ => 0)))), (q3, .inl (cJ, 8, .inr (.inl (fun _ => 0))))] H _ := G
  refine W.widen (k := 3) (n := 24) (by decide) (by decide) ?_
  refine va_putF (D := (dC, dI)) (ci := 3) (v := .ref q3) (ty := (.array .long)) (C := R_M) (T := F_M) (N := 21) hx hb hts (fun w h => gm (i_M w h)) t_M t_M_ok n_M hown hK G.1 G.2.1 G.2.2 0 rfl rfl 2 (by decide) (hts _ (gm tw_423)) (fun _ h9 => h9) rfl hin rfl (by decide +kernel) rfl rfl (Nat.le_of_ble_eq_true rfl) d_M_init_25 (fun H locs hP hD hS => ?_)
  have G : hG (dC, dI) classes A s.heap [(h0, .inr (3, [.ref q1, .ref q2, .ref q3, .null, .null, .null, .null, .null, .long 0, .long 0, .long 0, .long 0, .long 0, .long 0, .null, .null, .null, .null, .null, .int 0, .null])), (q1, .inl (cJ, 8, .inr (.inl (fun _ => 0)))), (q2, .inl (cJ, 8, .inr (.inl (fun _ => 0)))), (q3, .inl (cJ, 8, .inr (.inl (fun _ => 0))))] H locs := ⟨hP, hD, hS⟩
  refine lv_aload_n hx hb d_M_init_28 rfl (lv_at hl 0 rfl) ?_
  refine lv_bipush (v := (8 : Int32)) hx hb d_M_init_29 (by decide) ?_
  refine hg_newJ hx hb (hts _ (gm tw_41)) hK G hA (N := 8) (by decide) (by decide) (by decide) (Nat.le_of_ble_eq_true rfl) (Nat.le_of_ble_eq_true rfl) d_M_init_31 (fun q4 H G => ?_)
  have G : hG (dC, dI) classes A s.heap [(h0, .inr (3, [.ref q1, .ref q2, .ref q3, .null, .null, .null, .null, .null, .long 0, .long 0, .long 0, .long 0, .long 0, .long 0, .null, .null, .null, .null, .null, .int 0, .null])), (q1, .inl (cJ, 8, .inr (.inl (fun _ => 0)))), (q2, .inl (cJ, 8, .inr (.inl (fun _ => 0)))), (q3, .inl (cJ, 8, .inr (.inl (fun _ => 0)))), (q4, .inl (cJ, 8, .inr (.inl (fun _ => 0))))] H _ := G
  refine W.widen (k := 4) (n := 32) (by decide) (by decide) ?_
  refine va_putF (D := (dC, dI)) (ci := 3) (v := .ref q4) (ty := (.array .long)) (C := R_M) (T := F_M) (N := 21) hx hb hts (fun w h => gm (i_M w h)) t_M t_M_ok n_M hown hK G.1 G.2.1 G.2.2 0 rfl rfl 3 (by decide) (hts _ (gm tw_424)) (fun _ h9 => h9) rfl hin rfl (by decide +kernel) rfl rfl (Nat.le_of_ble_eq_true rfl) d_M_init_33 (fun H locs hP hD hS => ?_)
  have G : hG (dC, dI) classes A s.heap [(h0, .inr (3, [.ref q1, .ref q2, .ref q3, .ref q4, .null, .null, .null, .null, .long 0, .long 0, .long 0, .long 0, .long 0, .long 0, .null, .null, .null, .null, .null, .int 0, .null])), (q1, .inl (cJ, 8, .inr (.inl (fun _ => 0)))), (q2, .inl (cJ, 8, .inr (.inl (fun _ => 0)))), (q3, .inl (cJ, 8, .inr (.inl (fun _ => 0)))), (q4, .inl (cJ, 8, .inr (.inl (fun _ => 0))))] H locs := ⟨hP, hD, hS⟩
  refine lv_aload_n hx hb d_M_init_36 rfl (lv_at hl 0 rfl) ?_
  refine lv_bipush (v := (8 : Int32)) hx hb d_M_init_37 (by decide) ?_
  refine hg_newJ hx hb (hts _ (gm tw_41)) hK G hA (N := 8) (by decide) (by decide) (by decide) (Nat.le_of_ble_eq_true rfl) (Nat.le_of_ble_eq_true rfl) d_M_init_39 (fun q5 H G => ?_)
  have G : hG (dC, dI) classes A s.heap [(h0, .inr (3, [.ref q1, .ref q2, .ref q3, .ref q4, .null, .null, .null, .null, .long 0, .long 0, .long 0, .long 0, .long 0, .long 0, .null, .null, .null, .null, .null, .int 0, .null])), (q1, .inl (cJ, 8, .inr (.inl (fun _ => 0)))), (q2, .inl (cJ, 8, .inr (.inl (fun _ => 0)))), (q3, .inl (cJ, 8, .inr (.inl (fun _ => 0)))), (q4, .inl (cJ, 8, .inr (.inl (fun _ => 0)))), (q5, .inl (cJ, 8, .inr (.inl (fun _ => 0))))] H _ := G
  refine W.widen (k := 5) (n := 40) (by decide) (by decide) ?_
  refine va_putF (D := (dC, dI)) (ci := 3) (v := .ref q5) (ty := (.array .long)) (C := R_M) (T := F_M) (N := 21) hx hb hts (fun w h => gm (i_M w h)) t_M t_M_ok n_M hown hK G.1 G.2.1 G.2.2 0 rfl rfl 4 (by decide) (hts _ (gm tw_425)) (fun _ h9 => h9) rfl hin rfl (by decide +kernel) rfl rfl (Nat.le_of_ble_eq_true rfl) d_M_init_41 (fun H locs hP hD hS => ?_)
  have G : hG (dC, dI) classes A s.heap [(h0, .inr (3, [.ref q1, .ref q2, .ref q3, .ref q4, .ref q5, .null, .null, .null, .long 0, .long 0, .long 0, .long 0, .long 0, .long 0, .null, .null, .null, .null, .null, .int 0, .null])), (q1, .inl (cJ, 8, .inr (.inl (fun _ => 0)))), (q2, .inl (cJ, 8, .inr (.inl (fun _ => 0)))), (q3, .inl (cJ, 8, .inr (.inl (fun _ => 0)))), (q4, .inl (cJ, 8, .inr (.inl (fun _ => 0)))), (q5, .inl (cJ, 8, .inr (.inl (fun _ => 0))))] H locs := ⟨hP, hD, hS⟩
  refine lv_aload_n hx hb d_M_init_44 rfl (lv_at hl 0 rfl) ?_
  refine lv_bipush (v := (8 : Int32)) hx hb d_M_init_45 (by decide) ?_
  refine hg_newJ hx hb (hts _ (gm tw_41)) hK G hA (N := 8) (by decide) (by decide) (by decide) (Nat.le_of_ble_eq_true rfl) (Nat.le_of_ble_eq_true rfl) d_M_init_47 (fun q6 H G => ?_)
  have G : hG (dC, dI) classes A s.heap [(h0, .inr (3, [.ref q1, .ref q2, .ref q3, .ref q4, .ref q5, .null, .null, .null, .long 0, .long 0, .long 0, .long 0, .long 0, .long 0, .null, .null, .null, .null, .null, .int 0, .null])), (q1, .inl (cJ, 8, .inr (.inl (fun _ => 0)))), (q2, .inl (cJ, 8, .inr (.inl (fun _ => 0)))), (q3, .inl (cJ, 8, .inr (.inl (fun _ => 0)))), (q4, .inl (cJ, 8, .inr (.inl (fun _ => 0)))), (q5, .inl (cJ, 8, .inr (.inl (fun _ => 0)))), (q6, .inl (cJ, 8, .inr (.inl (fun _ => 0))))] H _ := G
  refine W.widen (k := 6) (n := 48) (by decide) (by decide) ?_
  refine va_putF (D := (dC, dI)) (ci := 3) (v := .ref q6) (ty := (.array .long)) (C := R_M) (T := F_M) (N := 21) hx hb hts (fun w h => gm (i_M w h)) t_M t_M_ok n_M hown hK G.1 G.2.1 G.2.2 0 rfl rfl 5 (by decide) (hts _ (gm tw_426)) (fun _ h9 => h9) rfl hin rfl (by decide +kernel) rfl rfl (Nat.le_of_ble_eq_true rfl) d_M_init_49 (fun H locs hP hD hS => ?_)
  have G : hG (dC, dI) classes A s.heap [(h0, .inr (3, [.ref q1, .ref q2, .ref q3, .ref q4, .ref q5, .ref q6, .null, .null, .long 0, .long 0, .long 0, .long 0, .long 0, .long 0, .null, .null, .null, .null, .null, .int 0, .null])), (q1, .inl (cJ, 8, .inr (.inl (fun _ => 0)))), (q2, .inl (cJ, 8, .inr (.inl (fun _ => 0)))), (q3, .inl (cJ, 8, .inr (.inl (fun _ => 0)))), (q4, .inl (cJ, 8, .inr (.inl (fun _ => 0)))), (q5, .inl (cJ, 8, .inr (.inl (fun _ => 0)))), (q6, .inl (cJ, 8, .inr (.inl (fun _ => 0))))] H locs := ⟨hP, hD, hS⟩
  refine lv_aload_n hx hb d_M_init_52 rfl (lv_at hl 0 rfl) ?_
  refine lv_bipush (v := (8 : Int32)) hx hb d_M_init_53 (by decide) ?_
  refine hg_newJ hx hb (hts _ (gm tw_41)) hK G hA (N := 8) (by decide) (by decide) (by decide) (Nat.le_of_ble_eq_true rfl) (Nat.le_of_ble_eq_true rfl) d_M_init_55 (fun q7 H G => ?_)
  have G : hG (dC, dI) classes A s.heap [(h0, .inr (3, [.ref q1, .ref q2, .ref q3, .ref q4, .ref q5, .ref q6, .null, .null, .long 0, .long 0, .long 0, .long 0, .long 0, .long 0, .null, .null, .null, .null, .null, .int 0, .null])), (q1, .inl (cJ, 8, .inr (.inl (fun _ => 0)))), (q2, .inl (cJ, 8, .inr (.inl (fun _ => 0)))), (q3, .inl (cJ, 8, .inr (.inl (fun _ => 0)))), (q4, .inl (cJ, 8, .inr (.inl (fun _ => 0)))), (q5, .inl (cJ, 8, .inr (.inl (fun _ => 0)))), (q6, .inl (cJ, 8, .inr (.inl (fun _ => 0)))), (q7, .inl (cJ, 8, .inr (.inl (fun _ => 0))))] H _ := G
  refine W.widen (k := 7) (n := 56) (by decide) (by decide) ?_
  refine va_putF (D := (dC, dI)) (ci := 3) (v := .ref q7) (ty := (.array .long)) (C := R_M) (T := F_M) (N := 21) hx hb hts (fun w h => gm (i_M w h)) t_M t_M_ok n_M hown hK G.1 G.2.1 G.2.2 0 rfl rfl 6 (by decide) (hts _ (gm tw_427)) (fun _ h9 => h9) rfl hin rfl (by decide +kernel) rfl rfl (Nat.le_of_ble_eq_true rfl) d_M_init_57 (fun H locs hP hD hS => ?_)
  have G : hG (dC, dI) classes A s.heap [(h0, .inr (3, [.ref q1, .ref q2, .ref q3, .ref q4, .ref q5, .ref q6, .ref q7, .null, .long 0, .long 0, .long 0, .long 0, .long 0, .long 0, .null, .null, .null, .null, .null, .int 0, .null])), (q1, .inl (cJ, 8, .inr (.inl (fun _ => 0)))), (q2, .inl (cJ, 8, .inr (.inl (fun _ => 0)))), (q3, .inl (cJ, 8, .inr (.inl (fun _ => 0)))), (q4, .inl (cJ, 8, .inr (.inl (fun _ => 0)))), (q5, .inl (cJ, 8, .inr (.inl (fun _ => 0)))), (q6, .inl (cJ, 8, .inr (.inl (fun _ => 0)))), (q7, .inl (cJ, 8, .inr (.inl (fun _ => 0))))] H locs := ⟨hP, hD, hS⟩
  refine lv_aload_n hx hb d_M_init_60 rfl (lv_at hl 0 rfl) ?_
  refine lv_bipush (v := (8 : Int32)) hx hb d_M_init_61 (by decide) ?_
  refine hg_newJ hx hb (hts _ (gm tw_41)) hK G hA (N := 8) (by decide) (by decide) (by decide) (Nat.le_of_ble_eq_true rfl) (Nat.le_of_ble_eq_true rfl) d_M_init_63 (fun q8 H G => ?_)
  have G : hG (dC, dI) classes A s.heap [(h0, .inr (3, [.ref q1, .ref q2, .ref q3, .ref q4, .ref q5, .ref q6, .ref q7, .null, .long 0, .long 0, .long 0, .long 0, .long 0, .long 0, .null, .null, .null, .null, .null, .int 0, .null])), (q1, .inl (cJ, 8, .inr (.inl (fun _ => 0)))), (q2, .inl (cJ, 8, .inr (.inl (fun _ => 0)))), (q3, .inl (cJ, 8, .inr (.inl (fun _ => 0)))), (q4, .inl (cJ, 8, .inr (.inl (fun _ => 0)))), (q5, .inl (cJ, 8, .inr (.inl (fun _ => 0)))), (q6, .inl (cJ, 8, .inr (.inl (fun _ => 0)))), (q7, .inl (cJ, 8, .inr (.inl (fun _ => 0)))), (q8, .inl (cJ, 8, .inr (.inl (fun _ => 0))))] H _ := G
  refine W.widen (k := 8) (n := 64) (by decide) (by decide) ?_
  refine va_putF (D := (dC, dI)) (ci := 3) (v := .ref q8) (ty := (.array .long)) (C := R_M) (T := F_M) (N := 21) hx hb hts (fun w h => gm (i_M w h)) t_M t_M_ok n_M hown hK G.1 G.2.1 G.2.2 0 rfl rfl 7 (by decide) (hts _ (gm tw_428)) (fun _ h9 => h9) rfl hin rfl (by decide +kernel) rfl rfl (Nat.le_of_ble_eq_true rfl) d_M_init_65 (fun H locs hP hD hS => ?_)
  have G : hG (dC, dI) classes A s.heap [(h0, .inr (3, [.ref q1, .ref q2, .ref q3, .ref q4, .ref q5, .ref q6, .ref q7, .ref q8, .long 0, .long 0, .long 0, .long 0, .long 0, .long 0, .null, .null, .null, .null, .null, .int 0, .null])), (q1, .inl (cJ, 8, .inr (.inl (fun _ => 0)))), (q2, .inl (cJ, 8, .inr (.inl (fun _ => 0)))), (q3, .inl (cJ, 8, .inr (.inl (fun _ => 0)))), (q4, .inl (cJ, 8, .inr (.inl (fun _ => 0)))), (q5, .inl (cJ, 8, .inr (.inl (fun _ => 0)))), (q6, .inl (cJ, 8, .inr (.inl (fun _ => 0)))), (q7, .inl (cJ, 8, .inr (.inl (fun _ => 0)))), (q8, .inl (cJ, 8, .inr (.inl (fun _ => 0))))] H locs := ⟨hP, hD, hS⟩
  refine lv_aload_n hx hb d_M_init_68 rfl (lv_at hl 0 rfl) ?_
  refine lv_ldc2 (v := (1040187392 : Int64)) hx hb hown (hts _ (gm tw_418)) d_M_init_69 ?_
  refine va_put (D := (dC, dI)) (ci := 3) (v := .long (1040187392 : Int64)) (ty := .long) (C := R_M) (T := F_M) (N := 21) hx hb hts (fun w h => gm (i_M w h)) t_M t_M_ok n_M hown hK G.1 G.2.1 G.2.2 0 rfl rfl 11 (by decide) (hts _ (gm tw_432)) (fun _ h9 => h9) rfl (by decide +kernel) rfl rfl (Nat.le_of_ble_eq_true rfl) d_M_init_72 (fun H locs hP hD hS => ?_)
  have G : hG (dC, dI) classes A s.heap [(h0, .inr (3, [.ref q1, .ref q2, .ref q3, .ref q4, .ref q5, .ref q6, .ref q7, .ref q8, .long 0, .long 0, .long 0, .long (1040187392 : Int64), .long 0, .long 0, .null, .null, .null, .null, .null, .int 0, .null])), (q1, .inl (cJ, 8, .inr (.inl (fun _ => 0)))), (q2, .inl (cJ, 8, .inr (.inl (fun _ => 0)))), (q3, .inl (cJ, 8, .inr (.inl (fun _ => 0)))), (q4, .inl (cJ, 8, .inr (.inl (fun _ => 0)))), (q5, .inl (cJ, 8, .inr (.inl (fun _ => 0)))), (q6, .inl (cJ, 8, .inr (.inl (fun _ => 0)))), (q7, .inl (cJ, 8, .inr (.inl (fun _ => 0)))), (q8, .inl (cJ, 8, .inr (.inl (fun _ => 0))))] H locs := ⟨hP, hD, hS⟩
  refine lv_aload_n hx hb d_M_init_75 rfl (lv_at hl 0 rfl) ?_
  refine lv_ldc2 (v := (9218868437227405312 : Int64)) hx hb hown (hts _ (gm tw_419)) d_M_init_76 ?_
  refine va_put (D := (dC, dI)) (ci := 3) (v := .long (9218868437227405312 : Int64)) (ty := .long) (C := R_M) (T := F_M) (N := 21) hx hb hts (fun w h => gm (i_M w h)) t_M t_M_ok n_M hown hK G.1 G.2.1 G.2.2 0 rfl rfl 12 (by decide) (hts _ (gm tw_433)) (fun _ h9 => h9) rfl (by decide +kernel) rfl rfl (Nat.le_of_ble_eq_true rfl) d_M_init_79 (fun H locs hP hD hS => ?_)
  have G : hG (dC, dI) classes A s.heap [(h0, .inr (3, [.ref q1, .ref q2, .ref q3, .ref q4, .ref q5, .ref q6, .ref q7, .ref q8, .long 0, .long 0, .long 0, .long (1040187392 : Int64), .long (9218868437227405312 : Int64), .long 0, .null, .null, .null, .null, .null, .int 0, .null])), (q1, .inl (cJ, 8, .inr (.inl (fun _ => 0)))), (q2, .inl (cJ, 8, .inr (.inl (fun _ => 0)))), (q3, .inl (cJ, 8, .inr (.inl (fun _ => 0)))), (q4, .inl (cJ, 8, .inr (.inl (fun _ => 0)))), (q5, .inl (cJ, 8, .inr (.inl (fun _ => 0)))), (q6, .inl (cJ, 8, .inr (.inl (fun _ => 0)))), (q7, .inl (cJ, 8, .inr (.inl (fun _ => 0)))), (q8, .inl (cJ, 8, .inr (.inl (fun _ => 0))))] H locs := ⟨hP, hD, hS⟩
  refine lv_aload_n hx hb d_M_init_82 rfl (lv_at hl 0 rfl) ?_
  refine lv_ldc2 (v := (1065353216 : Int64)) hx hb hown (hts _ (gm tw_420)) d_M_init_83 ?_
  refine va_put (D := (dC, dI)) (ci := 3) (v := .long (1065353216 : Int64)) (ty := .long) (C := R_M) (T := F_M) (N := 21) hx hb hts (fun w h => gm (i_M w h)) t_M t_M_ok n_M hown hK G.1 G.2.1 G.2.2 0 rfl rfl 13 (by decide) (hts _ (gm tw_434)) (fun _ h9 => h9) rfl (by decide +kernel) rfl rfl (Nat.le_of_ble_eq_true rfl) d_M_init_86 (fun H locs hP hD hS => ?_)
  have G : hG (dC, dI) classes A s.heap [(h0, .inr (3, [.ref q1, .ref q2, .ref q3, .ref q4, .ref q5, .ref q6, .ref q7, .ref q8, .long 0, .long 0, .long 0, .long (1040187392 : Int64), .long (9218868437227405312 : Int64), .long (1065353216 : Int64), .null, .null, .null, .null, .null, .int 0, .null])), (q1, .inl (cJ, 8, .inr (.inl (fun _ => 0)))), (q2, .inl (cJ, 8, .inr (.inl (fun _ => 0)))), (q3, .inl (cJ, 8, .inr (.inl (fun _ => 0)))), (q4, .inl (cJ, 8, .inr (.inl (fun _ => 0)))), (q5, .inl (cJ, 8, .inr (.inl (fun _ => 0)))), (q6, .inl (cJ, 8, .inr (.inl (fun _ => 0)))), (q7, .inl (cJ, 8, .inr (.inl (fun _ => 0)))), (q8, .inl (cJ, 8, .inr (.inl (fun _ => 0))))] H locs := ⟨hP, hD, hS⟩
  refine lv_aload_n hx hb d_M_init_89 rfl (lv_at hl 0 rfl) ?_
  refine lv_bipush (v := (10 : Int32)) hx hb d_M_init_90 (by decide) ?_
  refine hg_newI hx hb (hts _ (gm tw_42)) hK G hA (N := 10) (by decide) (by decide) (by decide) (Nat.le_of_ble_eq_true rfl) (Nat.le_of_ble_eq_true rfl) d_M_init_92 (fun q9 H G => ?_)
  have G : hG (dC, dI) classes A s.heap [(h0, .inr (3, [.ref q1, .ref q2, .ref q3, .ref q4, .ref q5, .ref q6, .ref q7, .ref q8, .long 0, .long 0, .long 0, .long (1040187392 : Int64), .long (9218868437227405312 : Int64), .long (1065353216 : Int64), .null, .null, .null, .null, .null, .int 0, .null])), (q1, .inl (cJ, 8, .inr (.inl (fun _ => 0)))), (q2, .inl (cJ, 8, .inr (.inl (fun _ => 0)))), (q3, .inl (cJ, 8, .inr (.inl (fun _ => 0)))), (q4, .inl (cJ, 8, .inr (.inl (fun _ => 0)))), (q5, .inl (cJ, 8, .inr (.inl (fun _ => 0)))), (q6, .inl (cJ, 8, .inr (.inl (fun _ => 0)))), (q7, .inl (cJ, 8, .inr (.inl (fun _ => 0)))), (q8, .inl (cJ, 8, .inr (.inl (fun _ => 0)))), (q9, .inl (cI, 10, .inl (fun _ => 0)))] H _ := G
  refine W.widen (k := 9) (n := 74) (by decide) (by decide) ?_
  refine va_putF (D := (dC, dI)) (ci := 3) (v := .ref q9) (ty := (.array .int)) (C := R_M) (T := F_M) (N := 21) hx hb hts (fun w h => gm (i_M w h)) t_M t_M_ok n_M hown hK G.1 G.2.1 G.2.2 0 rfl rfl 14 (by decide) (hts _ (gm tw_435)) (fun _ h9 => h9) rfl hin rfl (by decide +kernel) rfl rfl (Nat.le_of_ble_eq_true rfl) d_M_init_94 (fun H locs hP hD hS => ?_)
  have G : hG (dC, dI) classes A s.heap [(h0, .inr (3, [.ref q1, .ref q2, .ref q3, .ref q4, .ref q5, .ref q6, .ref q7, .ref q8, .long 0, .long 0, .long 0, .long (1040187392 : Int64), .long (9218868437227405312 : Int64), .long (1065353216 : Int64), .ref q9, .null, .null, .null, .null, .int 0, .null])), (q1, .inl (cJ, 8, .inr (.inl (fun _ => 0)))), (q2, .inl (cJ, 8, .inr (.inl (fun _ => 0)))), (q3, .inl (cJ, 8, .inr (.inl (fun _ => 0)))), (q4, .inl (cJ, 8, .inr (.inl (fun _ => 0)))), (q5, .inl (cJ, 8, .inr (.inl (fun _ => 0)))), (q6, .inl (cJ, 8, .inr (.inl (fun _ => 0)))), (q7, .inl (cJ, 8, .inr (.inl (fun _ => 0)))), (q8, .inl (cJ, 8, .inr (.inl (fun _ => 0)))), (q9, .inl (cI, 10, .inl (fun _ => 0)))] H locs := ⟨hP, hD, hS⟩
  refine lv_aload_n hx hb d_M_init_97 rfl (lv_at hl 0 rfl) ?_
  refine lv_bipush (v := (10 : Int32)) hx hb d_M_init_98 (by decide) ?_
  refine hg_newI hx hb (hts _ (gm tw_42)) hK G hA (N := 10) (by decide) (by decide) (by decide) (Nat.le_of_ble_eq_true rfl) (Nat.le_of_ble_eq_true rfl) d_M_init_100 (fun q10 H G => ?_)
  have G : hG (dC, dI) classes A s.heap [(h0, .inr (3, [.ref q1, .ref q2, .ref q3, .ref q4, .ref q5, .ref q6, .ref q7, .ref q8, .long 0, .long 0, .long 0, .long (1040187392 : Int64), .long (9218868437227405312 : Int64), .long (1065353216 : Int64), .ref q9, .null, .null, .null, .null, .int 0, .null])), (q1, .inl (cJ, 8, .inr (.inl (fun _ => 0)))), (q2, .inl (cJ, 8, .inr (.inl (fun _ => 0)))), (q3, .inl (cJ, 8, .inr (.inl (fun _ => 0)))), (q4, .inl (cJ, 8, .inr (.inl (fun _ => 0)))), (q5, .inl (cJ, 8, .inr (.inl (fun _ => 0)))), (q6, .inl (cJ, 8, .inr (.inl (fun _ => 0)))), (q7, .inl (cJ, 8, .inr (.inl (fun _ => 0)))), (q8, .inl (cJ, 8, .inr (.inl (fun _ => 0)))), (q9, .inl (cI, 10, .inl (fun _ => 0))), (q10, .inl (cI, 10, .inl (fun _ => 0)))] H _ := G
  refine W.widen (k := 10) (n := 84) (by decide) (by decide) ?_
  refine va_putF (D := (dC, dI)) (ci := 3) (v := .ref q10) (ty := (.array .int)) (C := R_M) (T := F_M) (N := 21) hx hb hts (fun w h => gm (i_M w h)) t_M t_M_ok n_M hown hK G.1 G.2.1 G.2.2 0 rfl rfl 15 (by decide) (hts _ (gm tw_436)) (fun _ h9 => h9) rfl hin rfl (by decide +kernel) rfl rfl (Nat.le_of_ble_eq_true rfl) d_M_init_102 (fun H locs hP hD hS => ?_)
  have G : hG (dC, dI) classes A s.heap [(h0, .inr (3, [.ref q1, .ref q2, .ref q3, .ref q4, .ref q5, .ref q6, .ref q7, .ref q8, .long 0, .long 0, .long 0, .long (1040187392 : Int64), .long (9218868437227405312 : Int64), .long (1065353216 : Int64), .ref q9, .ref q10, .null, .null, .null, .int 0, .null])), (q1, .inl (cJ, 8, .inr (.inl (fun _ => 0)))), (q2, .inl (cJ, 8, .inr (.inl (fun _ => 0)))), (q3, .inl (cJ, 8, .inr (.inl (fun _ => 0)))), (q4, .inl (cJ, 8, .inr (.inl (fun _ => 0)))), (q5, .inl (cJ, 8, .inr (.inl (fun _ => 0)))), (q6, .inl (cJ, 8, .inr (.inl (fun _ => 0)))), (q7, .inl (cJ, 8, .inr (.inl (fun _ => 0)))), (q8, .inl (cJ, 8, .inr (.inl (fun _ => 0)))), (q9, .inl (cI, 10, .inl (fun _ => 0))), (q10, .inl (cI, 10, .inl (fun _ => 0)))] H locs := ⟨hP, hD, hS⟩
  refine lv_aload_n hx hb d_M_init_105 rfl (lv_at hl 0 rfl) ?_
  refine lv_bipush (v := (10 : Int32)) hx hb d_M_init_106 (by decide) ?_
  refine hg_newJ hx hb (hts _ (gm tw_41)) hK G hA (N := 10) (by decide) (by decide) (by decide) (Nat.le_of_ble_eq_true rfl) (Nat.le_of_ble_eq_true rfl) d_M_init_108 (fun q11 H G => ?_)
  have G : hG (dC, dI) classes A s.heap [(h0, .inr (3, [.ref q1, .ref q2, .ref q3, .ref q4, .ref q5, .ref q6, .ref q7, .ref q8, .long 0, .long 0, .long 0, .long (1040187392 : Int64), .long (9218868437227405312 : Int64), .long (1065353216 : Int64), .ref q9, .ref q10, .null, .null, .null, .int 0, .null])), (q1, .inl (cJ, 8, .inr (.inl (fun _ => 0)))), (q2, .inl (cJ, 8, .inr (.inl (fun _ => 0)))), (q3, .inl (cJ, 8, .inr (.inl (fun _ => 0)))), (q4, .inl (cJ, 8, .inr (.inl (fun _ => 0)))), (q5, .inl (cJ, 8, .inr (.inl (fun _ => 0)))), (q6, .inl (cJ, 8, .inr (.inl (fun _ => 0)))), (q7, .inl (cJ, 8, .inr (.inl (fun _ => 0)))), (q8, .inl (cJ, 8, .inr (.inl (fun _ => 0)))), (q9, .inl (cI, 10, .inl (fun _ => 0))), (q10, .inl (cI, 10, .inl (fun _ => 0))), (q11, .inl (cJ, 10, .inr (.inl (fun _ => 0))))] H _ := G
  refine W.widen (k := 11) (n := 94) (by decide) (by decide) ?_
  refine va_putF (D := (dC, dI)) (ci := 3) (v := .ref q11) (ty := (.array .long)) (C := R_M) (T := F_M) (N := 21) hx hb hts (fun w h => gm (i_M w h)) t_M t_M_ok n_M hown hK G.1 G.2.1 G.2.2 0 rfl rfl 16 (by decide) (hts _ (gm tw_437)) (fun _ h9 => h9) rfl hin rfl (by decide +kernel) rfl rfl (Nat.le_of_ble_eq_true rfl) d_M_init_110 (fun H locs hP hD hS => ?_)
  have G : hG (dC, dI) classes A s.heap [(h0, .inr (3, [.ref q1, .ref q2, .ref q3, .ref q4, .ref q5, .ref q6, .ref q7, .ref q8, .long 0, .long 0, .long 0, .long (1040187392 : Int64), .long (9218868437227405312 : Int64), .long (1065353216 : Int64), .ref q9, .ref q10, .ref q11, .null, .null, .int 0, .null])), (q1, .inl (cJ, 8, .inr (.inl (fun _ => 0)))), (q2, .inl (cJ, 8, .inr (.inl (fun _ => 0)))), (q3, .inl (cJ, 8, .inr (.inl (fun _ => 0)))), (q4, .inl (cJ, 8, .inr (.inl (fun _ => 0)))), (q5, .inl (cJ, 8, .inr (.inl (fun _ => 0)))), (q6, .inl (cJ, 8, .inr (.inl (fun _ => 0)))), (q7, .inl (cJ, 8, .inr (.inl (fun _ => 0)))), (q8, .inl (cJ, 8, .inr (.inl (fun _ => 0)))), (q9, .inl (cI, 10, .inl (fun _ => 0))), (q10, .inl (cI, 10, .inl (fun _ => 0))), (q11, .inl (cJ, 10, .inr (.inl (fun _ => 0))))] H locs := ⟨hP, hD, hS⟩
  refine lv_aload_n hx hb d_M_init_113 rfl (lv_at hl 0 rfl) ?_
  refine lv_bipush (v := (10 : Int32)) hx hb d_M_init_114 (by decide) ?_
  refine hg_newJ hx hb (hts _ (gm tw_41)) hK G hA (N := 10) (by decide) (by decide) (by decide) (Nat.le_of_ble_eq_true rfl) (Nat.le_of_ble_eq_true rfl) d_M_init_116 (fun q12 H G => ?_)
  have G : hG (dC, dI) classes A s.heap [(h0, .inr (3, [.ref q1, .ref q2, .ref q3, .ref q4, .ref q5, .ref q6, .ref q7, .ref q8, .long 0, .long 0, .long 0, .long (1040187392 : Int64), .long (9218868437227405312 : Int64), .long (1065353216 : Int64), .ref q9, .ref q10, .ref q11, .null, .null, .int 0, .null])), (q1, .inl (cJ, 8, .inr (.inl (fun _ => 0)))), (q2, .inl (cJ, 8, .inr (.inl (fun _ => 0)))), (q3, .inl (cJ, 8, .inr (.inl (fun _ => 0)))), (q4, .inl (cJ, 8, .inr (.inl (fun _ => 0)))), (q5, .inl (cJ, 8, .inr (.inl (fun _ => 0)))), (q6, .inl (cJ, 8, .inr (.inl (fun _ => 0)))), (q7, .inl (cJ, 8, .inr (.inl (fun _ => 0)))), (q8, .inl (cJ, 8, .inr (.inl (fun _ => 0)))), (q9, .inl (cI, 10, .inl (fun _ => 0))), (q10, .inl (cI, 10, .inl (fun _ => 0))), (q11, .inl (cJ, 10, .inr (.inl (fun _ => 0)))), (q12, .inl (cJ, 10, .inr (.inl (fun _ => 0))))] H _ := G
  refine W.widen (k := 12) (n := 104) (by decide) (by decide) ?_
  refine va_putF (D := (dC, dI)) (ci := 3) (v := .ref q12) (ty := (.array .long)) (C := R_M) (T := F_M) (N := 21) hx hb hts (fun w h => gm (i_M w h)) t_M t_M_ok n_M hown hK G.1 G.2.1 G.2.2 0 rfl rfl 17 (by decide) (hts _ (gm tw_438)) (fun _ h9 => h9) rfl hin rfl (by decide +kernel) rfl rfl (Nat.le_of_ble_eq_true rfl) d_M_init_118 (fun H locs hP hD hS => ?_)
  have G : hG (dC, dI) classes A s.heap [(h0, .inr (3, [.ref q1, .ref q2, .ref q3, .ref q4, .ref q5, .ref q6, .ref q7, .ref q8, .long 0, .long 0, .long 0, .long (1040187392 : Int64), .long (9218868437227405312 : Int64), .long (1065353216 : Int64), .ref q9, .ref q10, .ref q11, .ref q12, .null, .int 0, .null])), (q1, .inl (cJ, 8, .inr (.inl (fun _ => 0)))), (q2, .inl (cJ, 8, .inr (.inl (fun _ => 0)))), (q3, .inl (cJ, 8, .inr (.inl (fun _ => 0)))), (q4, .inl (cJ, 8, .inr (.inl (fun _ => 0)))), (q5, .inl (cJ, 8, .inr (.inl (fun _ => 0)))), (q6, .inl (cJ, 8, .inr (.inl (fun _ => 0)))), (q7, .inl (cJ, 8, .inr (.inl (fun _ => 0)))), (q8, .inl (cJ, 8, .inr (.inl (fun _ => 0)))), (q9, .inl (cI, 10, .inl (fun _ => 0))), (q10, .inl (cI, 10, .inl (fun _ => 0))), (q11, .inl (cJ, 10, .inr (.inl (fun _ => 0)))), (q12, .inl (cJ, 10, .inr (.inl (fun _ => 0))))] H locs := ⟨hP, hD, hS⟩
  refine lv_aload_n hx hb d_M_init_121 rfl (lv_at hl 0 rfl) ?_
  refine lv_bipush (v := (10 : Int32)) hx hb d_M_init_122 (by decide) ?_
  refine hg_newJ hx hb (hts _ (gm tw_41)) hK G hA (N := 10) (by decide) (by decide) (by decide) (Nat.le_of_ble_eq_true rfl) (Nat.le_of_ble_eq_true rfl) d_M_init_124 (fun q13 H G => ?_)
  have G : hG (dC, dI) classes A s.heap [(h0, .inr (3, [.ref q1, .ref q2, .ref q3, .ref q4, .ref q5, .ref q6, .ref q7, .ref q8, .long 0, .long 0, .long 0, .long (1040187392 : Int64), .long (9218868437227405312 : Int64), .long (1065353216 : Int64), .ref q9, .ref q10, .ref q11, .ref q12, .null, .int 0, .null])), (q1, .inl (cJ, 8, .inr (.inl (fun _ => 0)))), (q2, .inl (cJ, 8, .inr (.inl (fun _ => 0)))), (q3, .inl (cJ, 8, .inr (.inl (fun _ => 0)))), (q4, .inl (cJ, 8, .inr (.inl (fun _ => 0)))), (q5, .inl (cJ, 8, .inr (.inl (fun _ => 0)))), (q6, .inl (cJ, 8, .inr (.inl (fun _ => 0)))), (q7, .inl (cJ, 8, .inr (.inl (fun _ => 0)))), (q8, .inl (cJ, 8, .inr (.inl (fun _ => 0)))), (q9, .inl (cI, 10, .inl (fun _ => 0))), (q10, .inl (cI, 10, .inl (fun _ => 0))), (q11, .inl (cJ, 10, .inr (.inl (fun _ => 0)))), (q12, .inl (cJ, 10, .inr (.inl (fun _ => 0)))), (q13, .inl (cJ, 10, .inr (.inl (fun _ => 0))))] H _ := G
  refine W.widen (k := 13) (n := 114) (by decide) (by decide) ?_
  refine va_putF (D := (dC, dI)) (ci := 3) (v := .ref q13) (ty := (.array .long)) (C := R_M) (T := F_M) (N := 21) hx hb hts (fun w h => gm (i_M w h)) t_M t_M_ok n_M hown hK G.1 G.2.1 G.2.2 0 rfl rfl 18 (by decide) (hts _ (gm tw_439)) (fun _ h9 => h9) rfl hin rfl (by decide +kernel) rfl rfl (Nat.le_of_ble_eq_true rfl) d_M_init_126 (fun H locs hP hD hS => ?_)
  have G : hG (dC, dI) classes A s.heap [(h0, .inr (3, [.ref q1, .ref q2, .ref q3, .ref q4, .ref q5, .ref q6, .ref q7, .ref q8, .long 0, .long 0, .long 0, .long (1040187392 : Int64), .long (9218868437227405312 : Int64), .long (1065353216 : Int64), .ref q9, .ref q10, .ref q11, .ref q12, .ref q13, .int 0, .null])), (q1, .inl (cJ, 8, .inr (.inl (fun _ => 0)))), (q2, .inl (cJ, 8, .inr (.inl (fun _ => 0)))), (q3, .inl (cJ, 8, .inr (.inl (fun _ => 0)))), (q4, .inl (cJ, 8, .inr (.inl (fun _ => 0)))), (q5, .inl (cJ, 8, .inr (.inl (fun _ => 0)))), (q6, .inl (cJ, 8, .inr (.inl (fun _ => 0)))), (q7, .inl (cJ, 8, .inr (.inl (fun _ => 0)))), (q8, .inl (cJ, 8, .inr (.inl (fun _ => 0)))), (q9, .inl (cI, 10, .inl (fun _ => 0))), (q10, .inl (cI, 10, .inl (fun _ => 0))), (q11, .inl (cJ, 10, .inr (.inl (fun _ => 0)))), (q12, .inl (cJ, 10, .inr (.inl (fun _ => 0)))), (q13, .inl (cJ, 10, .inr (.inl (fun _ => 0))))] H locs := ⟨hP, hD, hS⟩
  refine lv_aload_n hx hb d_M_init_129 rfl (lv_at hl 0 rfl) ?_
  refine lv_bipush (v := (8 : Int32)) hx hb d_M_init_130 (by decide) ?_
  refine hg_newJ hx hb (hts _ (gm tw_41)) hK G hA (N := 8) (by decide) (by decide) (by decide) (Nat.le_of_ble_eq_true rfl) (Nat.le_of_ble_eq_true rfl) d_M_init_132 (fun q14 H G => ?_)
  have G : hG (dC, dI) classes A s.heap [(h0, .inr (3, [.ref q1, .ref q2, .ref q3, .ref q4, .ref q5, .ref q6, .ref q7, .ref q8, .long 0, .long 0, .long 0, .long (1040187392 : Int64), .long (9218868437227405312 : Int64), .long (1065353216 : Int64), .ref q9, .ref q10, .ref q11, .ref q12, .ref q13, .int 0, .null])), (q1, .inl (cJ, 8, .inr (.inl (fun _ => 0)))), (q2, .inl (cJ, 8, .inr (.inl (fun _ => 0)))), (q3, .inl (cJ, 8, .inr (.inl (fun _ => 0)))), (q4, .inl (cJ, 8, .inr (.inl (fun _ => 0)))), (q5, .inl (cJ, 8, .inr (.inl (fun _ => 0)))), (q6, .inl (cJ, 8, .inr (.inl (fun _ => 0)))), (q7, .inl (cJ, 8, .inr (.inl (fun _ => 0)))), (q8, .inl (cJ, 8, .inr (.inl (fun _ => 0)))), (q9, .inl (cI, 10, .inl (fun _ => 0))), (q10, .inl (cI, 10, .inl (fun _ => 0))), (q11, .inl (cJ, 10, .inr (.inl (fun _ => 0)))), (q12, .inl (cJ, 10, .inr (.inl (fun _ => 0)))), (q13, .inl (cJ, 10, .inr (.inl (fun _ => 0)))), (q14, .inl (cJ, 8, .inr (.inl (fun _ => 0))))] H _ := G
  refine W.widen (k := 14) (n := 122) (by decide) (by decide) ?_
  refine va_putF (D := (dC, dI)) (ci := 3) (v := .ref q14) (ty := (.array .long)) (C := R_M) (T := F_M) (N := 21) hx hb hts (fun w h => gm (i_M w h)) t_M t_M_ok n_M hown hK G.1 G.2.1 G.2.2 0 rfl rfl 20 (by decide) (hts _ (gm tw_441)) (fun _ h9 => h9) rfl hin rfl (by decide +kernel) rfl rfl (Nat.le_of_ble_eq_true rfl) d_M_init_134 (fun H locs hP hD hS => ?_)
  have G : hG (dC, dI) classes A s.heap [(h0, .inr (3, [.ref q1, .ref q2, .ref q3, .ref q4, .ref q5, .ref q6, .ref q7, .ref q8, .long 0, .long 0, .long 0, .long (1040187392 : Int64), .long (9218868437227405312 : Int64), .long (1065353216 : Int64), .ref q9, .ref q10, .ref q11, .ref q12, .ref q13, .int 0, .ref q14])), (q1, .inl (cJ, 8, .inr (.inl (fun _ => 0)))), (q2, .inl (cJ, 8, .inr (.inl (fun _ => 0)))), (q3, .inl (cJ, 8, .inr (.inl (fun _ => 0)))), (q4, .inl (cJ, 8, .inr (.inl (fun _ => 0)))), (q5, .inl (cJ, 8, .inr (.inl (fun _ => 0)))), (q6, .inl (cJ, 8, .inr (.inl (fun _ => 0)))), (q7, .inl (cJ, 8, .inr (.inl (fun _ => 0)))), (q8, .inl (cJ, 8, .inr (.inl (fun _ => 0)))), (q9, .inl (cI, 10, .inl (fun _ => 0))), (q10, .inl (cI, 10, .inl (fun _ => 0))), (q11, .inl (cJ, 10, .inr (.inl (fun _ => 0)))), (q12, .inl (cJ, 10, .inr (.inl (fun _ => 0)))), (q13, .inl (cJ, 10, .inr (.inl (fun _ => 0)))), (q14, .inl (cJ, 8, .inr (.inl (fun _ => 0))))] H locs := ⟨hP, hD, hS⟩
  refine lv_iconst (v := 0) hx hb d_M_init_137 (by decide) ?_
  refine lv_istore_n (lv' := [(1, .int (0 : Int32)), (0, .ref h0)]) hx hb d_M_init_138 rfl hl (by decide) rfl (fun ls hl => ?_)
  refine lv_iload_n hx hb d_M_init_139 rfl (lv_at hl 0 rfl) ?_
  refine lv_bipush (v := (8 : Int32)) hx hb d_M_init_140 (by decide) ?_
  refine lv_icmp_ge (tgt := 160) hx hb d_M_init_142 (by decide) (fun c0 => absurd c0 (by decide)) (fun _ => ?_)
  refine lv_aload_n hx hb d_M_init_145 rfl (lv_at hl 1 rfl) ?_
  refine va_get (D := (dC, dI)) (ci := 3) (v := .ref q5) (C := R_M) (T := F_M) (N := 21) hx hb hts (fun w h => gm (i_M w h)) hown hK G.1 0 rfl rfl 4 (by decide) (hts _ (gm tw_425)) (fun _ h9 => h9) rfl d_M_init_146 ?_
  refine lv_iload_n hx hb d_M_init_149 rfl (lv_at hl 0 rfl) ?_
  refine lv_ldc2 (v := (1065353216 : Int64)) hx hb hown (hts _ (gm tw_420)) d_M_init_150 ?_
  refine hg_last hx hb hK G 5 0 rfl rfl (in_of (by decide) (by decide)) d_M_init_153 [(h0, .inr (3, [.ref q1, .ref q2, .ref q3, .ref q4, .ref q5, .ref q6, .ref q7, .ref q8, .long 0, .long 0, .long 0, .long (1040187392 : Int64), .long (9218868437227405312 : Int64), .long (1065353216 : Int64), .ref q9, .ref q10, .ref q11, .ref q12, .ref q13, .int 0, .ref q14])), (q1, .inl (cJ, 8, .inr (.inl (fun _ => 0)))), (q2, .inl (cJ, 8, .inr (.inl (fun _ => 0)))), (q3, .inl (cJ, 8, .inr (.inl (fun _ => 0)))), (q4, .inl (cJ, 8, .inr (.inl (fun _ => 0)))), (q5, .inl (cJ, 8, .inr (.inl zM_init_0))), (q6, .inl (cJ, 8, .inr (.inl (fun _ => 0)))), (q7, .inl (cJ, 8, .inr (.inl (fun _ => 0)))), (q8, .inl (cJ, 8, .inr (.inl (fun _ => 0)))), (q9, .inl (cI, 10, .inl (fun _ => 0))), (q10, .inl (cI, 10, .inl (fun _ => 0))), (q11, .inl (cJ, 10, .inr (.inl (fun _ => 0)))), (q12, .inl (cJ, 10, .inr (.inl (fun _ => 0)))), (q13, .inl (cJ, 10, .inr (.inl (fun _ => 0)))), (q14, .inl (cJ, 8, .inr (.inl (fun _ => 0))))] rfl (fun H locs G => ?_)
  refine lv_iinc (v := (1 : Int32)) (lv' := [(1, .int (1 : Int32)), (0, .ref h0)]) hx hb d_M_init_154 hl (k := 0) rfl (by decide) (by decide) rfl (fun ls hl => ?_)
  refine lv_goto (tgt := 139) hx hb d_M_init_157 (by decide) ?_
  refine lv_iload_n hx hb d_M_init_139 rfl (lv_at hl 0 rfl) ?_
  refine lv_bipush (v := (8 : Int32)) hx hb d_M_init_140 (by decide) ?_
  refine lv_icmp_ge (tgt := 160) hx hb d_M_init_142 (by decide) (fun c0 => absurd c0 (by decide)) (fun _ => ?_)
  refine lv_aload_n hx hb d_M_init_145 rfl (lv_at hl 1 rfl) ?_
  refine va_get (D := (dC, dI)) (ci := 3) (v := .ref q5) (C := R_M) (T := F_M) (N := 21) hx hb hts (fun w h => gm (i_M w h)) hown hK G.1 0 rfl rfl 4 (by decide) (hts _ (gm tw_425)) (fun _ h9 => h9) rfl d_M_init_146 ?_
  refine lv_iload_n hx hb d_M_init_149 rfl (lv_at hl 0 rfl) ?_
  refine lv_ldc2 (v := (1065353216 : Int64)) hx hb hown (hts _ (gm tw_420)) d_M_init_150 ?_
  refine hg_last hx hb hK G 5 0 rfl rfl (in_of (by decide) (by decide)) d_M_init_153 [(h0, .inr (3, [.ref q1, .ref q2, .ref q3, .ref q4, .ref q5, .ref q6, .ref q7, .ref q8, .long 0, .long 0, .long 0, .long (1040187392 : Int64), .long (9218868437227405312 : Int64), .long (1065353216 : Int64), .ref q9, .ref q10, .ref q11, .ref q12, .ref q13, .int 0, .ref q14])), (q1, .inl (cJ, 8, .inr (.inl (fun _ => 0)))), (q2, .inl (cJ, 8, .inr (.inl (fun _ => 0)))), (q3, .inl (cJ, 8, .inr (.inl (fun _ => 0)))), (q4, .inl (cJ, 8, .inr (.inl (fun _ => 0)))), (q5, .inl (cJ, 8, .inr (.inl zM_init_1))), (q6, .inl (cJ, 8, .inr (.inl (fun _ => 0)))), (q7, .inl (cJ, 8, .inr (.inl (fun _ => 0)))), (q8, .inl (cJ, 8, .inr (.inl (fun _ => 0)))), (q9, .inl (cI, 10, .inl (fun _ => 0))), (q10, .inl (cI, 10, .inl (fun _ => 0))), (q11, .inl (cJ, 10, .inr (.inl (fun _ => 0)))), (q12, .inl (cJ, 10, .inr (.inl (fun _ => 0)))), (q13, .inl (cJ, 10, .inr (.inl (fun _ => 0)))), (q14, .inl (cJ, 8, .inr (.inl (fun _ => 0))))] rfl (fun H locs G => ?_)
  refine lv_iinc (v := (2 : Int32)) (lv' := [(1, .int (2 : Int32)), (0, .ref h0)]) hx hb d_M_init_154 hl (k := 0) rfl (by decide) (by decide) rfl (fun ls hl => ?_)
  refine lv_goto (tgt := 139) hx hb d_M_init_157 (by decide) ?_
  refine lv_iload_n hx hb d_M_init_139 rfl (lv_at hl 0 rfl) ?_
  refine lv_bipush (v := (8 : Int32)) hx hb d_M_init_140 (by decide) ?_
  refine lv_icmp_ge (tgt := 160) hx hb d_M_init_142 (by decide) (fun c0 => absurd c0 (by decide)) (fun _ => ?_)
  refine lv_aload_n hx hb d_M_init_145 rfl (lv_at hl 1 rfl) ?_
  refine va_get (D := (dC, dI)) (ci := 3) (v := .ref q5) (C := R_M) (T := F_M) (N := 21) hx hb hts (fun w h => gm (i_M w h)) hown hK G.1 0 rfl rfl 4 (by decide) (hts _ (gm tw_425)) (fun _ h9 => h9) rfl d_M_init_146 ?_
  refine lv_iload_n hx hb d_M_init_149 rfl (lv_at hl 0 rfl) ?_
  refine lv_ldc2 (v := (1065353216 : Int64)) hx hb hown (hts _ (gm tw_420)) d_M_init_150 ?_
  refine hg_last hx hb hK G 5 0 rfl rfl (in_of (by decide) (by decide)) d_M_init_153 [(h0, .inr (3, [.ref q1, .ref q2, .ref q3, .ref q4, .ref q5, .ref q6, .ref q7, .ref q8, .long 0, .long 0, .long 0, .long (1040187392 : Int64), .long (9218868437227405312 : Int64), .long (1065353216 : Int64), .ref q9, .ref q10, .ref q11, .ref q12, .ref q13, .int 0, .ref q14])), (q1, .inl (cJ, 8, .inr (.inl (fun _ => 0)))), (q2, .inl (cJ, 8, .inr (.inl (fun _ => 0)))), (q3, .inl (cJ, 8, .inr (.inl (fun _ => 0)))), (q4, .inl (cJ, 8, .inr (.inl (fun _ => 0)))), (q5, .inl (cJ, 8, .inr (.inl zM_init_2))), (q6, .inl (cJ, 8, .inr (.inl (fun _ => 0)))), (q7, .inl (cJ, 8, .inr (.inl (fun _ => 0)))), (q8, .inl (cJ, 8, .inr (.inl (fun _ => 0)))), (q9, .inl (cI, 10, .inl (fun _ => 0))), (q10, .inl (cI, 10, .inl (fun _ => 0))), (q11, .inl (cJ, 10, .inr (.inl (fun _ => 0)))), (q12, .inl (cJ, 10, .inr (.inl (fun _ => 0)))), (q13, .inl (cJ, 10, .inr (.inl (fun _ => 0)))), (q14, .inl (cJ, 8, .inr (.inl (fun _ => 0))))] rfl (fun H locs G => ?_)
  refine lv_iinc (v := (3 : Int32)) (lv' := [(1, .int (3 : Int32)), (0, .ref h0)]) hx hb d_M_init_154 hl (k := 0) rfl (by decide) (by decide) rfl (fun ls hl => ?_)
  refine lv_goto (tgt := 139) hx hb d_M_init_157 (by decide) ?_
  refine lv_iload_n hx hb d_M_init_139 rfl (lv_at hl 0 rfl) ?_
  refine lv_bipush (v := (8 : Int32)) hx hb d_M_init_140 (by decide) ?_
  refine lv_icmp_ge (tgt := 160) hx hb d_M_init_142 (by decide) (fun c0 => absurd c0 (by decide)) (fun _ => ?_)
  refine lv_aload_n hx hb d_M_init_145 rfl (lv_at hl 1 rfl) ?_
  refine va_get (D := (dC, dI)) (ci := 3) (v := .ref q5) (C := R_M) (T := F_M) (N := 21) hx hb hts (fun w h => gm (i_M w h)) hown hK G.1 0 rfl rfl 4 (by decide) (hts _ (gm tw_425)) (fun _ h9 => h9) rfl d_M_init_146 ?_
  refine lv_iload_n hx hb d_M_init_149 rfl (lv_at hl 0 rfl) ?_
  refine lv_ldc2 (v := (1065353216 : Int64)) hx hb hown (hts _ (gm tw_420)) d_M_init_150 ?_
  refine hg_last hx hb hK G 5 0 rfl rfl (in_of (by decide) (by decide)) d_M_init_153 [(h0, .inr (3, [.ref q1, .ref q2, .ref q3, .ref q4, .ref q5, .ref q6, .ref q7, .ref q8, .long 0, .long 0, .long 0, .long (1040187392 : Int64), .long (9218868437227405312 : Int64), .long (1065353216 : Int64), .ref q9, .ref q10, .ref q11, .ref q12, .ref q13, .int 0, .ref q14])), (q1, .inl (cJ, 8, .inr (.inl (fun _ => 0)))), (q2, .inl (cJ, 8, .inr (.inl (fun _ => 0)))), (q3, .inl (cJ, 8, .inr (.inl (fun _ => 0)))), (q4, .inl (cJ, 8, .inr (.inl (fun _ => 0)))), (q5, .inl (cJ, 8, .inr (.inl zM_init_3))), (q6, .inl (cJ, 8, .inr (.inl (fun _ => 0)))), (q7, .inl (cJ, 8, .inr (.inl (fun _ => 0)))), (q8, .inl (cJ, 8, .inr (.inl (fun _ => 0)))), (q9, .inl (cI, 10, .inl (fun _ => 0))), (q10, .inl (cI, 10, .inl (fun _ => 0))), (q11, .inl (cJ, 10, .inr (.inl (fun _ => 0)))), (q12, .inl (cJ, 10, .inr (.inl (fun _ => 0)))), (q13, .inl (cJ, 10, .inr (.inl (fun _ => 0)))), (q14, .inl (cJ, 8, .inr (.inl (fun _ => 0))))] rfl (fun H locs G => ?_)
  refine lv_iinc (v := (4 : Int32)) (lv' := [(1, .int (4 : Int32)), (0, .ref h0)]) hx hb d_M_init_154 hl (k := 0) rfl (by decide) (by decide) rfl (fun ls hl => ?_)
  refine lv_goto (tgt := 139) hx hb d_M_init_157 (by decide) ?_
  refine lv_iload_n hx hb d_M_init_139 rfl (lv_at hl 0 rfl) ?_
  refine lv_bipush (v := (8 : Int32)) hx hb d_M_init_140 (by decide) ?_
  refine lv_icmp_ge (tgt := 160) hx hb d_M_init_142 (by decide) (fun c0 => absurd c0 (by decide)) (fun _ => ?_)
  refine lv_aload_n hx hb d_M_init_145 rfl (lv_at hl 1 rfl) ?_
  refine va_get (D := (dC, dI)) (ci := 3) (v := .ref q5) (C := R_M) (T := F_M) (N := 21) hx hb hts (fun w h => gm (i_M w h)) hown hK G.1 0 rfl rfl 4 (by decide) (hts _ (gm tw_425)) (fun _ h9 => h9) rfl d_M_init_146 ?_
  refine lv_iload_n hx hb d_M_init_149 rfl (lv_at hl 0 rfl) ?_
  refine lv_ldc2 (v := (1065353216 : Int64)) hx hb hown (hts _ (gm tw_420)) d_M_init_150 ?_
  refine hg_last hx hb hK G 5 0 rfl rfl (in_of (by decide) (by decide)) d_M_init_153 [(h0, .inr (3, [.ref q1, .ref q2, .ref q3, .ref q4, .ref q5, .ref q6, .ref q7, .ref q8, .long 0, .long 0, .long 0, .long (1040187392 : Int64), .long (9218868437227405312 : Int64), .long (1065353216 : Int64), .ref q9, .ref q10, .ref q11, .ref q12, .ref q13, .int 0, .ref q14])), (q1, .inl (cJ, 8, .inr (.inl (fun _ => 0)))), (q2, .inl (cJ, 8, .inr (.inl (fun _ => 0)))), (q3, .inl (cJ, 8, .inr (.inl (fun _ => 0)))), (q4, .inl (cJ, 8, .inr (.inl (fun _ => 0)))), (q5, .inl (cJ, 8, .inr (.inl zM_init_4))), (q6, .inl (cJ, 8, .inr (.inl (fun _ => 0)))), (q7, .inl (cJ, 8, .inr (.inl (fun _ => 0)))), (q8, .inl (cJ, 8, .inr (.inl (fun _ => 0)))), (q9, .inl (cI, 10, .inl (fun _ => 0))), (q10, .inl (cI, 10, .inl (fun _ => 0))), (q11, .inl (cJ, 10, .inr (.inl (fun _ => 0)))), (q12, .inl (cJ, 10, .inr (.inl (fun _ => 0)))), (q13, .inl (cJ, 10, .inr (.inl (fun _ => 0)))), (q14, .inl (cJ, 8, .inr (.inl (fun _ => 0))))] rfl (fun H locs G => ?_)
  refine lv_iinc (v := (5 : Int32)) (lv' := [(1, .int (5 : Int32)), (0, .ref h0)]) hx hb d_M_init_154 hl (k := 0) rfl (by decide) (by decide) rfl (fun ls hl => ?_)
  refine lv_goto (tgt := 139) hx hb d_M_init_157 (by decide) ?_
  refine lv_iload_n hx hb d_M_init_139 rfl (lv_at hl 0 rfl) ?_
  refine lv_bipush (v := (8 : Int32)) hx hb d_M_init_140 (by decide) ?_
  refine lv_icmp_ge (tgt := 160) hx hb d_M_init_142 (by decide) (fun c0 => absurd c0 (by decide)) (fun _ => ?_)
  refine lv_aload_n hx hb d_M_init_145 rfl (lv_at hl 1 rfl) ?_
  refine va_get (D := (dC, dI)) (ci := 3) (v := .ref q5) (C := R_M) (T := F_M) (N := 21) hx hb hts (fun w h => gm (i_M w h)) hown hK G.1 0 rfl rfl 4 (by decide) (hts _ (gm tw_425)) (fun _ h9 => h9) rfl d_M_init_146 ?_
  refine lv_iload_n hx hb d_M_init_149 rfl (lv_at hl 0 rfl) ?_
  refine lv_ldc2 (v := (1065353216 : Int64)) hx hb hown (hts _ (gm tw_420)) d_M_init_150 ?_
  refine hg_last hx hb hK G 5 0 rfl rfl (in_of (by decide) (by decide)) d_M_init_153 [(h0, .inr (3, [.ref q1, .ref q2, .ref q3, .ref q4, .ref q5, .ref q6, .ref q7, .ref q8, .long 0, .long 0, .long 0, .long (1040187392 : Int64), .long (9218868437227405312 : Int64), .long (1065353216 : Int64), .ref q9, .ref q10, .ref q11, .ref q12, .ref q13, .int 0, .ref q14])), (q1, .inl (cJ, 8, .inr (.inl (fun _ => 0)))), (q2, .inl (cJ, 8, .inr (.inl (fun _ => 0)))), (q3, .inl (cJ, 8, .inr (.inl (fun _ => 0)))), (q4, .inl (cJ, 8, .inr (.inl (fun _ => 0)))), (q5, .inl (cJ, 8, .inr (.inl zM_init_5))), (q6, .inl (cJ, 8, .inr (.inl (fun _ => 0)))), (q7, .inl (cJ, 8, .inr (.inl (fun _ => 0)))), (q8, .inl (cJ, 8, .inr (.inl (fun _ => 0)))), (q9, .inl (cI, 10, .inl (fun _ => 0))), (q10, .inl (cI, 10, .inl (fun _ => 0))), (q11, .inl (cJ, 10, .inr (.inl (fun _ => 0)))), (q12, .inl (cJ, 10, .inr (.inl (fun _ => 0)))), (q13, .inl (cJ, 10, .inr (.inl (fun _ => 0)))), (q14, .inl (cJ, 8, .inr (.inl (fun _ => 0))))] rfl (fun H locs G => ?_)
  refine lv_iinc (v := (6 : Int32)) (lv' := [(1, .int (6 : Int32)), (0, .ref h0)]) hx hb d_M_init_154 hl (k := 0) rfl (by decide) (by decide) rfl (fun ls hl => ?_)
  refine lv_goto (tgt := 139) hx hb d_M_init_157 (by decide) ?_
  refine lv_iload_n hx hb d_M_init_139 rfl (lv_at hl 0 rfl) ?_
  refine lv_bipush (v := (8 : Int32)) hx hb d_M_init_140 (by decide) ?_
  refine lv_icmp_ge (tgt := 160) hx hb d_M_init_142 (by decide) (fun c0 => absurd c0 (by decide)) (fun _ => ?_)
  refine lv_aload_n hx hb d_M_init_145 rfl (lv_at hl 1 rfl) ?_
  refine va_get (D := (dC, dI)) (ci := 3) (v := .ref q5) (C := R_M) (T := F_M) (N := 21) hx hb hts (fun w h => gm (i_M w h)) hown hK G.1 0 rfl rfl 4 (by decide) (hts _ (gm tw_425)) (fun _ h9 => h9) rfl d_M_init_146 ?_
  refine lv_iload_n hx hb d_M_init_149 rfl (lv_at hl 0 rfl) ?_
  refine lv_ldc2 (v := (1065353216 : Int64)) hx hb hown (hts _ (gm tw_420)) d_M_init_150 ?_
  refine hg_last hx hb hK G 5 0 rfl rfl (in_of (by decide) (by decide)) d_M_init_153 [(h0, .inr (3, [.ref q1, .ref q2, .ref q3, .ref q4, .ref q5, .ref q6, .ref q7, .ref q8, .long 0, .long 0, .long 0, .long (1040187392 : Int64), .long (9218868437227405312 : Int64), .long (1065353216 : Int64), .ref q9, .ref q10, .ref q11, .ref q12, .ref q13, .int 0, .ref q14])), (q1, .inl (cJ, 8, .inr (.inl (fun _ => 0)))), (q2, .inl (cJ, 8, .inr (.inl (fun _ => 0)))), (q3, .inl (cJ, 8, .inr (.inl (fun _ => 0)))), (q4, .inl (cJ, 8, .inr (.inl (fun _ => 0)))), (q5, .inl (cJ, 8, .inr (.inl zM_init_6))), (q6, .inl (cJ, 8, .inr (.inl (fun _ => 0)))), (q7, .inl (cJ, 8, .inr (.inl (fun _ => 0)))), (q8, .inl (cJ, 8, .inr (.inl (fun _ => 0)))), (q9, .inl (cI, 10, .inl (fun _ => 0))), (q10, .inl (cI, 10, .inl (fun _ => 0))), (q11, .inl (cJ, 10, .inr (.inl (fun _ => 0)))), (q12, .inl (cJ, 10, .inr (.inl (fun _ => 0)))), (q13, .inl (cJ, 10, .inr (.inl (fun _ => 0)))), (q14, .inl (cJ, 8, .inr (.inl (fun _ => 0))))] rfl (fun H locs G => ?_)
  refine lv_iinc (v := (7 : Int32)) (lv' := [(1, .int (7 : Int32)), (0, .ref h0)]) hx hb d_M_init_154 hl (k := 0) rfl (by decide) (by decide) rfl (fun ls hl => ?_)
  refine lv_goto (tgt := 139) hx hb d_M_init_157 (by decide) ?_
  refine lv_iload_n hx hb d_M_init_139 rfl (lv_at hl 0 rfl) ?_
  refine lv_bipush (v := (8 : Int32)) hx hb d_M_init_140 (by decide) ?_
  refine lv_icmp_ge (tgt := 160) hx hb d_M_init_142 (by decide) (fun c0 => absurd c0 (by decide)) (fun _ => ?_)
  refine lv_aload_n hx hb d_M_init_145 rfl (lv_at hl 1 rfl) ?_
  refine va_get (D := (dC, dI)) (ci := 3) (v := .ref q5) (C := R_M) (T := F_M) (N := 21) hx hb hts (fun w h => gm (i_M w h)) hown hK G.1 0 rfl rfl 4 (by decide) (hts _ (gm tw_425)) (fun _ h9 => h9) rfl d_M_init_146 ?_
  refine lv_iload_n hx hb d_M_init_149 rfl (lv_at hl 0 rfl) ?_
  refine lv_ldc2 (v := (1065353216 : Int64)) hx hb hown (hts _ (gm tw_420)) d_M_init_150 ?_
  refine hg_last hx hb hK G 5 0 rfl rfl (in_of (by decide) (by decide)) d_M_init_153 [(h0, .inr (3, [.ref q1, .ref q2, .ref q3, .ref q4, .ref q5, .ref q6, .ref q7, .ref q8, .long 0, .long 0, .long 0, .long (1040187392 : Int64), .long (9218868437227405312 : Int64), .long (1065353216 : Int64), .ref q9, .ref q10, .ref q11, .ref q12, .ref q13, .int 0, .ref q14])), (q1, .inl (cJ, 8, .inr (.inl (fun _ => 0)))), (q2, .inl (cJ, 8, .inr (.inl (fun _ => 0)))), (q3, .inl (cJ, 8, .inr (.inl (fun _ => 0)))), (q4, .inl (cJ, 8, .inr (.inl (fun _ => 0)))), (q5, .inl (cJ, 8, .inr (.inl zM_init_7))), (q6, .inl (cJ, 8, .inr (.inl (fun _ => 0)))), (q7, .inl (cJ, 8, .inr (.inl (fun _ => 0)))), (q8, .inl (cJ, 8, .inr (.inl (fun _ => 0)))), (q9, .inl (cI, 10, .inl (fun _ => 0))), (q10, .inl (cI, 10, .inl (fun _ => 0))), (q11, .inl (cJ, 10, .inr (.inl (fun _ => 0)))), (q12, .inl (cJ, 10, .inr (.inl (fun _ => 0)))), (q13, .inl (cJ, 10, .inr (.inl (fun _ => 0)))), (q14, .inl (cJ, 8, .inr (.inl (fun _ => 0))))] rfl (fun H locs G => ?_)
  refine lv_iinc (v := (8 : Int32)) (lv' := [(1, .int (8 : Int32)), (0, .ref h0)]) hx hb d_M_init_154 hl (k := 0) rfl (by decide) (by decide) rfl (fun ls hl => ?_)
  refine lv_goto (tgt := 139) hx hb d_M_init_157 (by decide) ?_
  refine lv_iload_n hx hb d_M_init_139 rfl (lv_at hl 0 rfl) ?_
  refine lv_bipush (v := (8 : Int32)) hx hb d_M_init_140 (by decide) ?_
  refine lv_icmp_ge (tgt := 160) hx hb d_M_init_142 (by decide) (fun _ => ?_) (fun c0 => absurd c0 (by decide))
  have G : hG (dC, dI) classes A s.heap (mW (fun k => match k with | 0 => h0 | 1 => q1 | 2 => q2 | 3 => q3 | 4 => q4 | 5 => q5 | 6 => q6 | 7 => q7 | 8 => q8 | 9 => q9 | 10 => q10 | 11 => q11 | 12 => q12 | 13 => q13 | _ => q14) cJ cI zM0) _ _ := ⟨G.1.sub [0, 1, 2, 3, 4, 5, 6, 7, 8, 9, 10, 11, 12, 13, 14] rfl, G.2.1.sub [0, 1, 2, 3, 4, 5, 6, 7, 8, 9, 10, 11, 12, 13, 14] (by decide) rfl, G.2.2⟩
  have hp : zp_M_init cJ cI h0 (mW (fun k => match k with | 0 => h0 | 1 => q1 | 2 => q2 | 3 => q3 | 4 => q4 | 5 => q5 | 6 => q6 | 7 => q7 | 8 => q8 | 9 => q9 | 10 => q10 | 11 => q11 | 12 => q12 | 13 => q13 | _ => q14) cJ cI zM0) := ⟨(fun k => match k with | 0 => h0 | 1 => q1 | 2 => q2 | 3 => q3 | 4 => q4 | 5 => q5 | 6 => q6 | 7 => q7 | 8 => q8 | 9 => q9 | 10 => q10 | 11 => q11 | 12 => q12 | 13 => q13 | _ => q14), rfl, rfl⟩
  exact hg_nret hx hb hr hlocks hK hAe G hp d_M_init_160
