-- ===== MotionLab$Ieee.rounded(JI)J
abbrev y_I_rounded_JI : MethodName := ⟨"MotionLab$Ieee", "rounded", "(JI)J"⟩
abbrev b_I_rounded_JI : ByteArray := prog_2_method_35_code
theorem d_I_rounded_JI_0 : decode b_I_rounded_JI 0 = .ok (.iload_n 2, 1) := by decide +kernel
theorem d_I_rounded_JI_1 : decode b_I_rounded_JI 1 = .ok (.ifCond .gt 8, 3) := by decide +kernel
theorem d_I_rounded_JI_4 : decode b_I_rounded_JI 4 = .ok (.lload_n 0, 1) := by decide +kernel
theorem d_I_rounded_JI_5 : decode b_I_rounded_JI 5 = .ok (.iload_n 2, 1) := by decide +kernel
theorem d_I_rounded_JI_6 : decode b_I_rounded_JI 6 = .ok (.ineg, 1) := by decide +kernel
theorem d_I_rounded_JI_7 : decode b_I_rounded_JI 7 = .ok (.lshl, 1) := by decide +kernel
theorem d_I_rounded_JI_8 : decode b_I_rounded_JI 8 = .ok (.lreturn, 1) := by decide +kernel
theorem d_I_rounded_JI_9 : decode b_I_rounded_JI 9 = .ok (.iload_n 2, 1) := by decide +kernel
theorem d_I_rounded_JI_10 : decode b_I_rounded_JI 10 = .ok (.bipush 63, 2) := by decide +kernel
theorem d_I_rounded_JI_12 : decode b_I_rounded_JI 12 = .ok (.if_icmp .le 5, 3) := by decide +kernel
theorem d_I_rounded_JI_15 : decode b_I_rounded_JI 15 = .ok (.lconst 0, 1) := by decide +kernel
theorem d_I_rounded_JI_16 : decode b_I_rounded_JI 16 = .ok (.lreturn, 1) := by decide +kernel
theorem d_I_rounded_JI_17 : decode b_I_rounded_JI 17 = .ok (.lload_n 0, 1) := by decide +kernel
theorem d_I_rounded_JI_18 : decode b_I_rounded_JI 18 = .ok (.iload_n 2, 1) := by decide +kernel
theorem d_I_rounded_JI_19 : decode b_I_rounded_JI 19 = .ok (.lushr, 1) := by decide +kernel
theorem d_I_rounded_JI_20 : decode b_I_rounded_JI 20 = .ok (.lstore_n 3, 1) := by decide +kernel
theorem d_I_rounded_JI_21 : decode b_I_rounded_JI 21 = .ok (.lload_n 0, 1) := by decide +kernel
theorem d_I_rounded_JI_22 : decode b_I_rounded_JI 22 = .ok (.lconst 1, 1) := by decide +kernel
theorem d_I_rounded_JI_23 : decode b_I_rounded_JI 23 = .ok (.iload_n 2, 1) := by decide +kernel
theorem d_I_rounded_JI_24 : decode b_I_rounded_JI 24 = .ok (.lshl, 1) := by decide +kernel
theorem d_I_rounded_JI_25 : decode b_I_rounded_JI 25 = .ok (.lconst 1, 1) := by decide +kernel
theorem d_I_rounded_JI_26 : decode b_I_rounded_JI 26 = .ok (.lsub, 1) := by decide +kernel
theorem d_I_rounded_JI_27 : decode b_I_rounded_JI 27 = .ok (.land, 1) := by decide +kernel
theorem d_I_rounded_JI_28 : decode b_I_rounded_JI 28 = .ok (.lstore 5, 2) := by decide +kernel
theorem d_I_rounded_JI_30 : decode b_I_rounded_JI 30 = .ok (.lconst 1, 1) := by decide +kernel
theorem d_I_rounded_JI_31 : decode b_I_rounded_JI 31 = .ok (.iload_n 2, 1) := by decide +kernel
theorem d_I_rounded_JI_32 : decode b_I_rounded_JI 32 = .ok (.iconst 1, 1) := by decide +kernel
theorem d_I_rounded_JI_33 : decode b_I_rounded_JI 33 = .ok (.isub, 1) := by decide +kernel
theorem d_I_rounded_JI_34 : decode b_I_rounded_JI 34 = .ok (.lshl, 1) := by decide +kernel
theorem d_I_rounded_JI_35 : decode b_I_rounded_JI 35 = .ok (.lstore 7, 2) := by decide +kernel
theorem d_I_rounded_JI_37 : decode b_I_rounded_JI 37 = .ok (.lload 5, 2) := by decide +kernel
theorem d_I_rounded_JI_39 : decode b_I_rounded_JI 39 = .ok (.lload 7, 2) := by decide +kernel
theorem d_I_rounded_JI_41 : decode b_I_rounded_JI 41 = .ok (.lcmp, 1) := by decide +kernel
theorem d_I_rounded_JI_42 : decode b_I_rounded_JI 42 = .ok (.ifCond .gt 19, 3) := by decide +kernel
theorem d_I_rounded_JI_45 : decode b_I_rounded_JI 45 = .ok (.lload 5, 2) := by decide +kernel
theorem d_I_rounded_JI_47 : decode b_I_rounded_JI 47 = .ok (.lload 7, 2) := by decide +kernel
theorem d_I_rounded_JI_49 : decode b_I_rounded_JI 49 = .ok (.lcmp, 1) := by decide +kernel
theorem d_I_rounded_JI_50 : decode b_I_rounded_JI 50 = .ok (.ifCond .ne 15, 3) := by decide +kernel
theorem d_I_rounded_JI_53 : decode b_I_rounded_JI 53 = .ok (.lload_n 3, 1) := by decide +kernel
theorem d_I_rounded_JI_54 : decode b_I_rounded_JI 54 = .ok (.lconst 1, 1) := by decide +kernel
theorem d_I_rounded_JI_55 : decode b_I_rounded_JI 55 = .ok (.land, 1) := by decide +kernel
theorem d_I_rounded_JI_56 : decode b_I_rounded_JI 56 = .ok (.lconst 1, 1) := by decide +kernel
theorem d_I_rounded_JI_57 : decode b_I_rounded_JI 57 = .ok (.lcmp, 1) := by decide +kernel
theorem d_I_rounded_JI_58 : decode b_I_rounded_JI 58 = .ok (.ifCond .ne 7, 3) := by decide +kernel
theorem d_I_rounded_JI_61 : decode b_I_rounded_JI 61 = .ok (.iconst 1, 1) := by decide +kernel
theorem d_I_rounded_JI_62 : decode b_I_rounded_JI 62 = .ok (.goto 4, 3) := by decide +kernel
theorem d_I_rounded_JI_65 : decode b_I_rounded_JI 65 = .ok (.iconst 0, 1) := by decide +kernel
theorem d_I_rounded_JI_66 : decode b_I_rounded_JI 66 = .ok (.istore 9, 2) := by decide +kernel
theorem d_I_rounded_JI_68 : decode b_I_rounded_JI 68 = .ok (.iload 9, 2) := by decide +kernel
theorem d_I_rounded_JI_70 : decode b_I_rounded_JI 70 = .ok (.ifCond .eq 9, 3) := by decide +kernel
theorem d_I_rounded_JI_73 : decode b_I_rounded_JI 73 = .ok (.lload_n 3, 1) := by decide +kernel
theorem d_I_rounded_JI_74 : decode b_I_rounded_JI 74 = .ok (.lconst 1, 1) := by decide +kernel
theorem d_I_rounded_JI_75 : decode b_I_rounded_JI 75 = .ok (.ladd, 1) := by decide +kernel
theorem d_I_rounded_JI_76 : decode b_I_rounded_JI 76 = .ok (.goto 4, 3) := by decide +kernel
theorem d_I_rounded_JI_79 : decode b_I_rounded_JI 79 = .ok (.lload_n 3, 1) := by decide +kernel
theorem d_I_rounded_JI_80 : decode b_I_rounded_JI 80 = .ok (.lreturn, 1) := by decide +kernel
def f_I_rounded_JI_66 (x3 : Int64) (s0 : Int32) : Int64 :=
  if s0 = 0 then
    x3
  else
    x3 + (1 : Int64)
set_option maxHeartbeats 4000000 in
set_option maxRecDepth 100000 in
theorem k_I_rounded_JI_66 {p : Program} {l : Launch} {e : Env} {s : State} {m : MethodId} {args : Array Value} {below : List Frame} {meth : Method} {c : Code} (C0 : pu_C p s m args meth c b_I_rounded_JI 10 "MotionLab$Ieee" (some .long) (gw y_I_rounded_JI b_I_rounded_JI 10 (some .long))) (x3 : Int64) (s0 : Int32) (ls : Array Slot) (hl : lv_has ls 10 [(3, .long x3)]) {w : Int64} (hw : w = f_I_rounded_JI_66 x3 s0) : W p l e (headSpec (gw y_I_rounded_JI b_I_rounded_JI 10 (some .long)) ({ frames := 0, cells := 0, slots := 0, locals := 0 } : Room)).room s m args below meth c s.heap [] 0 0 (pu_Ql w below args s) (F0 m 66 ls [.int s0]) := by
  obtain ⟨hx, hb, hml, hown, hts, hr, hlocks⟩ := id C0
  refine lv_istore (lv' := [(9, .int s0), (3, .long x3)]) hx hb d_I_rounded_JI_66 hl (by decide) rfl (fun ls hl => ?_)
  refine lv_iload hx hb d_I_rounded_JI_68 (lv_at hl 0 rfl) ?_
  refine lv_if_eq (tgt := 79) hx hb d_I_rounded_JI_70 (by decide) (fun c1 => ?_) (fun c1 => ?_)
  · refine lv_lload_n hx hb d_I_rounded_JI_79 rfl (lv_at hl 1 rfl) ?_
    exact pu_lret hx hb hr hlocks d_I_rounded_JI_80 (by exact Eq.symm (hw.trans (if_pos c1)))
  · refine lv_lload_n hx hb d_I_rounded_JI_73 rfl (lv_at hl 1 rfl) ?_
    refine lv_lconst (v := (1 : Int64)) hx hb d_I_rounded_JI_74 (by decide) ?_
    refine lv_ladd hx hb d_I_rounded_JI_75 ?_
    refine lv_goto (tgt := 80) hx hb d_I_rounded_JI_76 (by decide) ?_
    exact pu_lret hx hb hr hlocks d_I_rounded_JI_80 (by exact Eq.symm (hw.trans (if_neg c1)))
def f_I_rounded_JI_65 (x3 : Int64) : Int64 :=
  f_I_rounded_JI_66 x3 (0 : Int32)
set_option maxHeartbeats 4000000 in
set_option maxRecDepth 100000 in
theorem k_I_rounded_JI_65 {p : Program} {l : Launch} {e : Env} {s : State} {m : MethodId} {args : Array Value} {below : List Frame} {meth : Method} {c : Code} (C0 : pu_C p s m args meth c b_I_rounded_JI 10 "MotionLab$Ieee" (some .long) (gw y_I_rounded_JI b_I_rounded_JI 10 (some .long))) (x3 : Int64) (ls : Array Slot) (hl : lv_has ls 10 [(3, .long x3)]) {w : Int64} (hw : w = f_I_rounded_JI_65 x3) : W p l e (headSpec (gw y_I_rounded_JI b_I_rounded_JI 10 (some .long)) ({ frames := 0, cells := 0, slots := 0, locals := 0 } : Room)).room s m args below meth c s.heap [] 0 0 (pu_Ql w below args s) (F0 m 65 ls []) := by
  obtain ⟨hx, hb, hml, hown, hts, hr, hlocks⟩ := id C0
  refine lv_iconst (v := 0) hx hb d_I_rounded_JI_65 (by decide) ?_
  exact k_I_rounded_JI_66 C0 x3 (0 : Int32) ls (lv_sub hl [0] rfl) (by exact (hw.trans rfl))
def f_I_rounded_JI_61 (x3 : Int64) : Int64 :=
  f_I_rounded_JI_66 x3 (1 : Int32)
set_option maxHeartbeats 4000000 in
set_option maxRecDepth 100000 in
theorem k_I_rounded_JI_61 {p : Program} {l : Launch} {e : Env} {s : State} {m : MethodId} {args : Array Value} {below : List Frame} {meth : Method} {c : Code} (C0 : pu_C p s m args meth c b_I_rounded_JI 10 "MotionLab$Ieee" (some .long) (gw y_I_rounded_JI b_I_rounded_JI 10 (some .long))) (x3 : Int64) (ls : Array Slot) (hl : lv_has ls 10 [(3, .long x3)]) {w : Int64} (hw : w = f_I_rounded_JI_61 x3) : W p l e (headSpec (gw y_I_rounded_JI b_I_rounded_JI 10 (some .long)) ({ frames := 0, cells := 0, slots := 0, locals := 0 } : Room)).room s m args below meth c s.heap [] 0 0 (pu_Ql w below args s) (F0 m 61 ls []) := by
  obtain ⟨hx, hb, hml, hown, hts, hr, hlocks⟩ := id C0
  refine lv_iconst (v := 1) hx hb d_I_rounded_JI_61 (by decide) ?_
  refine lv_goto (tgt := 66) hx hb d_I_rounded_JI_62 (by decide) ?_
  exact k_I_rounded_JI_66 C0 x3 (1 : Int32) ls (lv_sub hl [0] rfl) (by exact (hw.trans rfl))
def f_I_rounded_JI (x0 : Int64) (x2 : Int32) : Int64 :=
  if 0 < x2 then
    if x2 ≤ (63 : Int32) then
      let v3 : Int64 := j_ushr x0 x2
      let v4 : Int64 := x0 &&& ((j_shl (1 : Int64) x2) - (1 : Int64))
      let v5 : Int64 := j_shl (1 : Int64) (x2 - (1 : Int32))
      if 0 < (lg_cmp v4 v5) then
        f_I_rounded_JI_61 v3
      else
        if (lg_cmp v4 v5) = 0 then
          if (lg_cmp (v3 &&& (1 : Int64)) (1 : Int64)) = 0 then
            f_I_rounded_JI_61 v3
          else
            f_I_rounded_JI_65 v3
        else
          f_I_rounded_JI_65 v3
    else
      (0 : Int64)
  else
    j_shl x0 (-x2)
set_option maxHeartbeats 4000000 in
set_option maxRecDepth 100000 in
theorem c_I_rounded_JI (l : Launch) (h : Heap) (x0 : Int64) (x2 : Int32) : Met l y_I_rounded_JI (gw y_I_rounded_JI b_I_rounded_JI 10 (some .long)) { frames := 0, cells := 0, slots := 0, locals := 0 } (pu_Pc [.long x0, .int x2] h) (pu_Ml (f_I_rounded_JI x0 x2) h) 0 0 (fun _ => False) := by
  refine Met.ofW (cc := b_I_rounded_JI) (maxL := 10) (ret := (some .long)) (by decide) rfl ?_
  intro p e s m args below meth c s₁ B hml hv
  obtain ⟨rfl, hh⟩ := hv
  subst hh
  have hx := B.exec
  have hb := B.bytes
  have hr := B.returns
  have hts := atoms_spec (ws := (gw y_I_rounded_JI b_I_rounded_JI 10 (some .long))) B.pre
  have hown : s.vm.findClass "MotionLab$Ieee" = some m.cls := findClass_of_methodNamed B.named
  have hlocks := B.notSynchronized
  have C0 : pu_C p s m _ meth c b_I_rounded_JI 10 "MotionLab$Ieee" (some .long) (gw y_I_rounded_JI b_I_rounded_JI 10 (some .long)) := ⟨hx, hb, hml, hown, hts, hr, hlocks⟩
  have hl := lv_entry ([.long x0, .int x2]) (n := 10) (Nat.le_of_ble_eq_true rfl)
  rw [lg_entry_eq]
  generalize (lg_sl ([.long x0, .int x2]) ++ List.replicate (10 - (lg_sl ([.long x0, .int x2])).length) Slot.unset).toArray = ls at hl ⊢
  have hl : lv_has ls 10 [(0, .long x0), (2, .int x2)] := hl
  refine lv_iload_n hx hb d_I_rounded_JI_0 rfl (lv_at hl 1 rfl) ?_
  refine lv_if_gt (tgt := 9) hx hb d_I_rounded_JI_1 (by decide) (fun c1 => ?_) (fun c1 => ?_)
  · refine lv_iload_n hx hb d_I_rounded_JI_9 rfl (lv_at hl 1 rfl) ?_
    refine lv_bipush (v := (63 : Int32)) hx hb d_I_rounded_JI_10 (by decide) ?_
    refine lv_icmp_le (tgt := 17) hx hb d_I_rounded_JI_12 (by decide) (fun c2 => ?_) (fun c2 => ?_)
    · refine lv_lload_n hx hb d_I_rounded_JI_17 rfl (lv_at hl 0 rfl) ?_
      refine lv_iload_n hx hb d_I_rounded_JI_18 rfl (lv_at hl 1 rfl) ?_
      refine lv_lushr (v := j_ushr x0 x2) hx hb d_I_rounded_JI_19 rfl ?_
      refine lv_topl (fun v3 e3 => ?_)
      refine lv_lstore_n (lv' := [(3, .long v3), (0, .long x0), (2, .int x2)]) hx hb d_I_rounded_JI_20 rfl hl (by decide) rfl (fun ls hl => ?_)
      refine lv_lload_n hx hb d_I_rounded_JI_21 rfl (lv_at hl 1 rfl) ?_
      refine lv_lconst (v := (1 : Int64)) hx hb d_I_rounded_JI_22 (by decide) ?_
      refine lv_iload_n hx hb d_I_rounded_JI_23 rfl (lv_at hl 2 rfl) ?_
      refine lv_lshl (v := j_shl (1 : Int64) x2) hx hb d_I_rounded_JI_24 rfl ?_
      refine lv_lconst (v := (1 : Int64)) hx hb d_I_rounded_JI_25 (by decide) ?_
      refine lv_lsub hx hb d_I_rounded_JI_26 ?_
      refine lv_land hx hb d_I_rounded_JI_27 ?_
      refine lv_topl (fun v4 e4 => ?_)
      refine lv_lstore (lv' := [(5, .long v4), (3, .long v3), (0, .long x0), (2, .int x2)]) hx hb d_I_rounded_JI_28 hl (by decide) rfl (fun ls hl => ?_)
      refine lv_lconst (v := (1 : Int64)) hx hb d_I_rounded_JI_30 (by decide) ?_
      refine lv_iload_n hx hb d_I_rounded_JI_31 rfl (lv_at hl 3 rfl) ?_
      refine lv_iconst (v := 1) hx hb d_I_rounded_JI_32 (by decide) ?_
      refine lv_isub hx hb d_I_rounded_JI_33 ?_
      refine lv_lshl (v := j_shl (1 : Int64) (x2 - (1 : Int32))) hx hb d_I_rounded_JI_34 rfl ?_
      refine lv_topl (fun v5 e5 => ?_)
      refine lv_lstore (lv' := [(7, .long v5), (5, .long v4), (3, .long v3), (0, .long x0), (2, .int x2)]) hx hb d_I_rounded_JI_35 hl (by decide) rfl (fun ls hl => ?_)
      refine lv_lload hx hb d_I_rounded_JI_37 (lv_at hl 1 rfl) ?_
      refine lv_lload hx hb d_I_rounded_JI_39 (lv_at hl 0 rfl) ?_
      refine W.lcmp hx hb d_I_rounded_JI_41 ?_
      refine lv_if_gt (tgt := 61) hx hb d_I_rounded_JI_42 (by decide) (fun c6 => ?_) (fun c6 => ?_)
      · exact k_I_rounded_JI_61 C0 v3 ls (lv_sub hl [2] rfl) (by have qe3 := e3.symm; have qe4 := e4.symm; have qe5 := e5.symm; subst qe3 qe4 qe5; exact (Eq.trans (if_pos c1) (Eq.trans (if_pos c2) (if_pos c6))))
      · refine lv_lload hx hb d_I_rounded_JI_45 (lv_at hl 1 rfl) ?_
        refine lv_lload hx hb d_I_rounded_JI_47 (lv_at hl 0 rfl) ?_
        refine W.lcmp hx hb d_I_rounded_JI_49 ?_
        refine lv_if_ne (tgt := 65) hx hb d_I_rounded_JI_50 (by decide) (fun c7 => ?_) (fun c7 => ?_)
        · exact k_I_rounded_JI_65 C0 v3 ls (lv_sub hl [2] rfl) (by have qe3 := e3.symm; have qe4 := e4.symm; have qe5 := e5.symm; subst qe3 qe4 qe5; exact (Eq.trans (if_pos c1) (Eq.trans (if_pos c2) (Eq.trans (if_neg c6) (if_neg c7)))))
        · refine lv_lload_n hx hb d_I_rounded_JI_53 rfl (lv_at hl 2 rfl) ?_
          refine lv_lconst (v := (1 : Int64)) hx hb d_I_rounded_JI_54 (by decide) ?_
          refine lv_land hx hb d_I_rounded_JI_55 ?_
          refine lv_lconst (v := (1 : Int64)) hx hb d_I_rounded_JI_56 (by decide) ?_
          refine W.lcmp hx hb d_I_rounded_JI_57 ?_
          refine lv_if_ne (tgt := 65) hx hb d_I_rounded_JI_58 (by decide) (fun c8 => ?_) (fun c8 => ?_)
          · exact k_I_rounded_JI_65 C0 v3 ls (lv_sub hl [2] rfl) (by have qe3 := e3.symm; have qe4 := e4.symm; have qe5 := e5.symm; subst qe3 qe4 qe5; exact (Eq.trans (if_pos c1) (Eq.trans (if_pos c2) (Eq.trans (if_neg c6) (Eq.trans (if_pos c7) (if_neg c8))))))
          · exact k_I_rounded_JI_61 C0 v3 ls (lv_sub hl [2] rfl) (by have qe3 := e3.symm; have qe4 := e4.symm; have qe5 := e5.symm; subst qe3 qe4 qe5; exact (Eq.trans (if_pos c1) (Eq.trans (if_pos c2) (Eq.trans (if_neg c6) (Eq.trans (if_pos c7) (if_pos c8))))))
    · refine lv_lconst (v := (0 : Int64)) hx hb d_I_rounded_JI_15 (by decide) ?_
      exact pu_lret hx hb hr hlocks d_I_rounded_JI_16 (by exact Eq.symm (Eq.trans (if_pos c1) (if_neg c2)))
  · refine lv_lload_n hx hb d_I_rounded_JI_4 rfl (lv_at hl 0 rfl) ?_
    refine lv_iload_n hx hb d_I_rounded_JI_5 rfl (lv_at hl 1 rfl) ?_
    refine lv_ineg hx hb d_I_rounded_JI_6 ?_
    refine lv_lshl (v := j_shl x0 (-x2)) hx hb d_I_rounded_JI_7 rfl ?_
    exact pu_lret hx hb hr hlocks d_I_rounded_JI_8 (by exact Eq.symm (if_neg c1))
-- ===== MotionLab$Ieee.nearest(JIJ)J
abbrev y_I_nearest_JIJ : MethodName := ⟨"MotionLab$Ieee", "nearest", "(JIJ)J"⟩
abbrev b_I_nearest_JIJ : ByteArray := prog_2_method_33_code
theorem d_I_nearest_JIJ_0 : decode b_I_nearest_JIJ 0 = .ok (.lload_n 3, 1) := by decide +kernel
theorem d_I_nearest_JIJ_1 : decode b_I_nearest_JIJ 1 = .ok (.lconst 0, 1) := by decide +kernel
theorem d_I_nearest_JIJ_2 : decode b_I_nearest_JIJ 2 = .ok (.lcmp, 1) := by decide +kernel
theorem d_I_nearest_JIJ_3 : decode b_I_nearest_JIJ 3 = .ok (.ifCond .ne 5, 3) := by decide +kernel
theorem d_I_nearest_JIJ_6 : decode b_I_nearest_JIJ 6 = .ok (.lload_n 0, 1) := by decide +kernel
theorem d_I_nearest_JIJ_7 : decode b_I_nearest_JIJ 7 = .ok (.lreturn, 1) := by decide +kernel
theorem d_I_nearest_JIJ_8 : decode b_I_nearest_JIJ 8 = .ok (.bipush 11, 2) := by decide +kernel
theorem d_I_nearest_JIJ_10 : decode b_I_nearest_JIJ 10 = .ok (.lload_n 3, 1) := by decide +kernel
theorem d_I_nearest_JIJ_11 : decode b_I_nearest_JIJ 11 = .ok (.invokestatic 126, 3) := by decide +kernel
theorem d_I_nearest_JIJ_14 : decode b_I_nearest_JIJ 14 = .ok (.isub, 1) := by decide +kernel
theorem d_I_nearest_JIJ_15 : decode b_I_nearest_JIJ 15 = .ok (.sipush (-1074), 3) := by decide +kernel
theorem d_I_nearest_JIJ_18 : decode b_I_nearest_JIJ 18 = .ok (.iload_n 2, 1) := by decide +kernel
theorem d_I_nearest_JIJ_19 : decode b_I_nearest_JIJ 19 = .ok (.isub, 1) := by decide +kernel
theorem d_I_nearest_JIJ_20 : decode b_I_nearest_JIJ 20 = .ok (.invokestatic 124, 3) := by decide +kernel
theorem d_I_nearest_JIJ_23 : decode b_I_nearest_JIJ 23 = .ok (.istore 5, 2) := by decide +kernel
theorem d_I_nearest_JIJ_25 : decode b_I_nearest_JIJ 25 = .ok (.iload_n 2, 1) := by decide +kernel
theorem d_I_nearest_JIJ_26 : decode b_I_nearest_JIJ 26 = .ok (.iload 5, 2) := by decide +kernel
theorem d_I_nearest_JIJ_28 : decode b_I_nearest_JIJ 28 = .ok (.iadd, 1) := by decide +kernel
theorem d_I_nearest_JIJ_29 : decode b_I_nearest_JIJ 29 = .ok (.sipush (-1074), 3) := by decide +kernel
theorem d_I_nearest_JIJ_32 : decode b_I_nearest_JIJ 32 = .ok (.isub, 1) := by decide +kernel
theorem d_I_nearest_JIJ_33 : decode b_I_nearest_JIJ 33 = .ok (.istore 6, 2) := by decide +kernel
theorem d_I_nearest_JIJ_35 : decode b_I_nearest_JIJ 35 = .ok (.iload 6, 2) := by decide +kernel
theorem d_I_nearest_JIJ_37 : decode b_I_nearest_JIJ 37 = .ok (.sipush 2045, 3) := by decide +kernel
theorem d_I_nearest_JIJ_40 : decode b_I_nearest_JIJ 40 = .ok (.if_icmp .le 9, 3) := by decide +kernel
theorem d_I_nearest_JIJ_43 : decode b_I_nearest_JIJ 43 = .ok (.lload_n 0, 1) := by decide +kernel
theorem d_I_nearest_JIJ_44 : decode b_I_nearest_JIJ 44 = .ok (.ldc2_w 11, 3) := by decide +kernel
theorem d_I_nearest_JIJ_47 : decode b_I_nearest_JIJ 47 = .ok (.lor, 1) := by decide +kernel
theorem d_I_nearest_JIJ_48 : decode b_I_nearest_JIJ 48 = .ok (.lreturn, 1) := by decide +kernel
theorem d_I_nearest_JIJ_49 : decode b_I_nearest_JIJ 49 = .ok (.lload_n 0, 1) := by decide +kernel
theorem d_I_nearest_JIJ_50 : decode b_I_nearest_JIJ 50 = .ok (.iload 6, 2) := by decide +kernel
theorem d_I_nearest_JIJ_52 : decode b_I_nearest_JIJ 52 = .ok (.i2l, 1) := by decide +kernel
theorem d_I_nearest_JIJ_53 : decode b_I_nearest_JIJ 53 = .ok (.bipush 52, 2) := by decide +kernel
theorem d_I_nearest_JIJ_55 : decode b_I_nearest_JIJ 55 = .ok (.lshl, 1) := by decide +kernel
theorem d_I_nearest_JIJ_56 : decode b_I_nearest_JIJ 56 = .ok (.lload_n 3, 1) := by decide +kernel
theorem d_I_nearest_JIJ_57 : decode b_I_nearest_JIJ 57 = .ok (.iload 5, 2) := by decide +kernel
theorem d_I_nearest_JIJ_59 : decode b_I_nearest_JIJ 59 = .ok (.invokestatic 131, 3) := by decide +kernel
theorem d_I_nearest_JIJ_62 : decode b_I_nearest_JIJ 62 = .ok (.ladd, 1) := by decide +kernel
theorem d_I_nearest_JIJ_63 : decode b_I_nearest_JIJ 63 = .ok (.lor, 1) := by decide +kernel
theorem d_I_nearest_JIJ_64 : decode b_I_nearest_JIJ 64 = .ok (.lreturn, 1) := by decide +kernel
def f_I_nearest_JIJ (x0 : Int64) (x2 : Int32) (x3 : Int64) : Int64 :=
  if (lg_cmp x3 (0 : Int64)) = 0 then
    x0
  else
    let v2 : Int32 := f_jM_max_II ((11 : Int32) - (f_jL_numberOfLeadingZeros_J x3)) ((-1074 : Int32) - x2)
    let v3 : Int32 := (x2 + v2) - (-1074 : Int32)
    if v3 ≤ (2045 : Int32) then
      x0 ||| ((j_shl (v3.toInt64) (52 : Int32)) + (f_I_rounded_JI x3 v2))
    else
      x0 ||| (9218868437227405312 : Int64)
set_option maxHeartbeats 4000000 in
set_option maxRecDepth 100000 in
theorem c_I_nearest_JIJ (l : Launch) (h : Heap) (x0 : Int64) (x2 : Int32) (x3 : Int64) : Met l y_I_nearest_JIJ (gw y_I_nearest_JIJ b_I_nearest_JIJ 7 (some .long)) { frames := 2, cells := 0, slots := 0, locals := 43 } (pu_Pc [.long x0, .int x2, .long x3] h) (pu_Ml (f_I_nearest_JIJ x0 x2 x3) h) 0 0 (fun _ => False) := by
  refine Met.ofW (cc := b_I_nearest_JIJ) (maxL := 7) (ret := (some .long)) (by decide) rfl ?_
  intro p e s m args below meth c s₁ B hml hv
  obtain ⟨rfl, hh⟩ := hv
  subst hh
  have hx := B.exec
  have hb := B.bytes
  have hr := B.returns
  have hts := atoms_spec (ws := (gw y_I_nearest_JIJ b_I_nearest_JIJ 7 (some .long))) B.pre
  have hown : s.vm.findClass "MotionLab$Ieee" = some m.cls := findClass_of_methodNamed B.named
  have hlocks := B.notSynchronized
  have C0 : pu_C p s m _ meth c b_I_nearest_JIJ 7 "MotionLab$Ieee" (some .long) (gw y_I_nearest_JIJ b_I_nearest_JIJ 7 (some .long)) := ⟨hx, hb, hml, hown, hts, hr, hlocks⟩
  have hl := lv_entry ([.long x0, .int x2, .long x3]) (n := 7) (Nat.le_of_ble_eq_true rfl)
  rw [lg_entry_eq]
  generalize (lg_sl ([.long x0, .int x2, .long x3]) ++ List.replicate (7 - (lg_sl ([.long x0, .int x2, .long x3])).length) Slot.unset).toArray = ls at hl ⊢
  have hl : lv_has ls 7 [(0, .long x0), (2, .int x2), (3, .long x3)] := hl
  refine lv_lload_n hx hb d_I_nearest_JIJ_0 rfl (lv_at hl 2 rfl) ?_
  refine lv_lconst (v := (0 : Int64)) hx hb d_I_nearest_JIJ_1 (by decide) ?_
  refine W.lcmp hx hb d_I_nearest_JIJ_2 ?_
  refine lv_if_ne (tgt := 8) hx hb d_I_nearest_JIJ_3 (by decide) (fun c1 => ?_) (fun c1 => ?_)
  · refine lv_bipush (v := (11 : Int32)) hx hb d_I_nearest_JIJ_8 (by decide) ?_
    refine lv_lload_n hx hb d_I_nearest_JIJ_10 rfl (lv_at hl 2 rfl) ?_
    refine pu_i (As := [.long x3]) (rest := [.int (11 : Int32)]) ⟨hx, hb, hml, hown, hts⟩ (c_jL_numberOfLeadingZeros_J l _ x3) pu_pre (gw_call (k := 1) hts tw_108 tw_109 tw_7 tw_110 (by decide +kernel) rfl rfl ⟨Nat.le_of_ble_eq_true rfl, Nat.le_of_ble_eq_true rfl⟩) rfl hl.1 rfl (Nat.le_of_ble_eq_true rfl) ⟨Nat.zero_le _, Nat.zero_le _⟩ d_I_nearest_JIJ_11 ?_
    refine lv_isub hx hb d_I_nearest_JIJ_14 ?_
    refine lv_sipush (v := (-1074 : Int32)) hx hb d_I_nearest_JIJ_15 (by decide) ?_
    refine lv_iload_n hx hb d_I_nearest_JIJ_18 rfl (lv_at hl 1 rfl) ?_
    refine lv_isub hx hb d_I_nearest_JIJ_19 ?_
    refine pu_i (As := [.int ((11 : Int32) - (f_jL_numberOfLeadingZeros_J x3)), .int ((-1074 : Int32) - x2)]) (rest := []) ⟨hx, hb, hml, hown, hts⟩ (c_jM_max_II l _ ((11 : Int32) - (f_jL_numberOfLeadingZeros_J x3)) ((-1074 : Int32) - x2)) pu_pre (gw_call (k := 2) hts tw_97 tw_98 tw_6 tw_99 (by decide +kernel) rfl rfl ⟨Nat.le_of_ble_eq_true rfl, Nat.le_of_ble_eq_true rfl⟩) rfl hl.1 rfl (Nat.le_of_ble_eq_true rfl) ⟨Nat.zero_le _, Nat.zero_le _⟩ d_I_nearest_JIJ_20 ?_
    refine lv_topi (fun v2 e2 => ?_)
    refine lv_istore (lv' := [(5, .int v2), (0, .long x0), (2, .int x2), (3, .long x3)]) hx hb d_I_nearest_JIJ_23 hl (by decide) rfl (fun ls hl => ?_)
    refine lv_iload_n hx hb d_I_nearest_JIJ_25 rfl (lv_at hl 2 rfl) ?_
    refine lv_iload hx hb d_I_nearest_JIJ_26 (lv_at hl 0 rfl) ?_
    refine lv_iadd hx hb d_I_nearest_JIJ_28 ?_
    refine lv_sipush (v := (-1074 : Int32)) hx hb d_I_nearest_JIJ_29 (by decide) ?_
    refine lv_isub hx hb d_I_nearest_JIJ_32 ?_
    refine lv_topi (fun v3 e3 => ?_)
    refine lv_istore (lv' := [(6, .int v3), (5, .int v2), (0, .long x0), (2, .int x2), (3, .long x3)]) hx hb d_I_nearest_JIJ_33 hl (by decide) rfl (fun ls hl => ?_)
    refine lv_iload hx hb d_I_nearest_JIJ_35 (lv_at hl 0 rfl) ?_
    refine lv_sipush (v := (2045 : Int32)) hx hb d_I_nearest_JIJ_37 (by decide) ?_
    refine lv_icmp_le (tgt := 49) hx hb d_I_nearest_JIJ_40 (by decide) (fun c4 => ?_) (fun c4 => ?_)
    · refine lv_lload_n hx hb d_I_nearest_JIJ_49 rfl (lv_at hl 2 rfl) ?_
      refine lv_iload hx hb d_I_nearest_JIJ_50 (lv_at hl 0 rfl) ?_
      refine lv_i2l hx hb d_I_nearest_JIJ_52 rfl ?_
      refine lv_bipush (v := (52 : Int32)) hx hb d_I_nearest_JIJ_53 (by decide) ?_
      refine lv_lshl (v := j_shl (v3.toInt64) (52 : Int32)) hx hb d_I_nearest_JIJ_55 rfl ?_
      refine lv_lload_n hx hb d_I_nearest_JIJ_56 rfl (lv_at hl 4 rfl) ?_
      refine lv_iload hx hb d_I_nearest_JIJ_57 (lv_at hl 1 rfl) ?_
      refine pu_l (As := [.long x3, .int v2]) (rest := [.long (j_shl (v3.toInt64) (52 : Int32)), .long x0]) ⟨hx, hb, hml, hown, hts⟩ (c_I_rounded_JI l _ x3 v2) pu_pre (gw_call (k := 2) hts tw_118 tw_119 tw_5 tw_120 (by decide +kernel) rfl rfl ⟨Nat.le_of_ble_eq_true rfl, Nat.le_of_ble_eq_true rfl⟩) rfl hl.1 rfl (Nat.le_of_ble_eq_true rfl) ⟨Nat.zero_le _, Nat.zero_le _⟩ d_I_nearest_JIJ_59 ?_
      refine lv_ladd hx hb d_I_nearest_JIJ_62 ?_
      refine lv_lor hx hb d_I_nearest_JIJ_63 ?_
      exact pu_lret hx hb hr hlocks d_I_nearest_JIJ_64 (by have qe2 := e2.symm; have qe3 := e3.symm; subst qe2 qe3; exact Eq.symm (Eq.trans (if_neg c1) (if_pos c4)))
    · refine lv_lload_n hx hb d_I_nearest_JIJ_43 rfl (lv_at hl 2 rfl) ?_
      refine lv_ldc2 (v := (9218868437227405312 : Int64)) hx hb hown (hts _ (gm tw_85)) d_I_nearest_JIJ_44 ?_
      refine lv_lor hx hb d_I_nearest_JIJ_47 ?_
      exact pu_lret hx hb hr hlocks d_I_nearest_JIJ_48 (by have qe2 := e2.symm; have qe3 := e3.symm; subst qe2 qe3; exact Eq.symm (Eq.trans (if_neg c1) (if_neg c4)))
  · refine lv_lload_n hx hb d_I_nearest_JIJ_6 rfl (lv_at hl 0 rfl) ?_
    exact pu_lret hx hb hr hlocks d_I_nearest_JIJ_7 (by exact Eq.symm (if_pos c1))
-- ===== MotionLab$Ieee.nearestFloat(JIJ)J
abbrev y_I_nearestFloat_JIJ : MethodName := ⟨"MotionLab$Ieee", "nearestFloat", "(JIJ)J"⟩
abbrev b_I_nearestFloat_JIJ : ByteArray := prog_2_method_34_code
theorem d_I_nearestFloat_JIJ_0 : decode b_I_nearestFloat_JIJ 0 = .ok (.bipush 40, 2) := by decide +kernel
theorem d_I_nearestFloat_JIJ_2 : decode b_I_nearestFloat_JIJ 2 = .ok (.lload_n 3, 1) := by decide +kernel
theorem d_I_nearestFloat_JIJ_3 : decode b_I_nearestFloat_JIJ 3 = .ok (.invokestatic 126, 3) := by decide +kernel
theorem d_I_nearestFloat_JIJ_6 : decode b_I_nearestFloat_JIJ 6 = .ok (.isub, 1) := by decide +kernel
theorem d_I_nearestFloat_JIJ_7 : decode b_I_nearestFloat_JIJ 7 = .ok (.sipush (-149), 3) := by decide +kernel
theorem d_I_nearestFloat_JIJ_10 : decode b_I_nearestFloat_JIJ 10 = .ok (.iload_n 2, 1) := by decide +kernel
theorem d_I_nearestFloat_JIJ_11 : decode b_I_nearestFloat_JIJ 11 = .ok (.isub, 1) := by decide +kernel
theorem d_I_nearestFloat_JIJ_12 : decode b_I_nearestFloat_JIJ 12 = .ok (.invokestatic 124, 3) := by decide +kernel
theorem d_I_nearestFloat_JIJ_15 : decode b_I_nearestFloat_JIJ 15 = .ok (.istore 5, 2) := by decide +kernel
theorem d_I_nearestFloat_JIJ_17 : decode b_I_nearestFloat_JIJ 17 = .ok (.iload 5, 2) := by decide +kernel
theorem d_I_nearestFloat_JIJ_19 : decode b_I_nearestFloat_JIJ 19 = .ok (.ifCond .gt 10, 3) := by decide +kernel
theorem d_I_nearestFloat_JIJ_22 : decode b_I_nearestFloat_JIJ 22 = .ok (.lload_n 0, 1) := by decide +kernel
theorem d_I_nearestFloat_JIJ_23 : decode b_I_nearestFloat_JIJ 23 = .ok (.iload_n 2, 1) := by decide +kernel
theorem d_I_nearestFloat_JIJ_24 : decode b_I_nearestFloat_JIJ 24 = .ok (.lload_n 3, 1) := by decide +kernel
theorem d_I_nearestFloat_JIJ_25 : decode b_I_nearestFloat_JIJ 25 = .ok (.invokestatic 52, 3) := by decide +kernel
theorem d_I_nearestFloat_JIJ_28 : decode b_I_nearestFloat_JIJ 28 = .ok (.lreturn, 1) := by decide +kernel
theorem d_I_nearestFloat_JIJ_29 : decode b_I_nearestFloat_JIJ 29 = .ok (.lload_n 0, 1) := by decide +kernel
theorem d_I_nearestFloat_JIJ_30 : decode b_I_nearestFloat_JIJ 30 = .ok (.iload_n 2, 1) := by decide +kernel
theorem d_I_nearestFloat_JIJ_31 : decode b_I_nearestFloat_JIJ 31 = .ok (.iload 5, 2) := by decide +kernel
theorem d_I_nearestFloat_JIJ_33 : decode b_I_nearestFloat_JIJ 33 = .ok (.iadd, 1) := by decide +kernel
theorem d_I_nearestFloat_JIJ_34 : decode b_I_nearestFloat_JIJ 34 = .ok (.lload_n 3, 1) := by decide +kernel
theorem d_I_nearestFloat_JIJ_35 : decode b_I_nearestFloat_JIJ 35 = .ok (.iload 5, 2) := by decide +kernel
theorem d_I_nearestFloat_JIJ_37 : decode b_I_nearestFloat_JIJ 37 = .ok (.invokestatic 131, 3) := by decide +kernel
theorem d_I_nearestFloat_JIJ_40 : decode b_I_nearestFloat_JIJ 40 = .ok (.invokestatic 52, 3) := by decide +kernel
theorem d_I_nearestFloat_JIJ_43 : decode b_I_nearestFloat_JIJ 43 = .ok (.lstore 6, 2) := by decide +kernel
theorem d_I_nearestFloat_JIJ_45 : decode b_I_nearestFloat_JIJ 45 = .ok (.lload 6, 2) := by decide +kernel
theorem d_I_nearestFloat_JIJ_47 : decode b_I_nearestFloat_JIJ 47 = .ok (.ldc2_w 9, 3) := by decide +kernel
theorem d_I_nearestFloat_JIJ_50 : decode b_I_nearestFloat_JIJ 50 = .ok (.land, 1) := by decide +kernel
theorem d_I_nearestFloat_JIJ_51 : decode b_I_nearestFloat_JIJ 51 = .ok (.ldc2_w 134, 3) := by decide +kernel
theorem d_I_nearestFloat_JIJ_54 : decode b_I_nearestFloat_JIJ 54 = .ok (.lcmp, 1) := by decide +kernel
theorem d_I_nearestFloat_JIJ_55 : decode b_I_nearestFloat_JIJ 55 = .ok (.ifCond .lt 11, 3) := by decide +kernel
theorem d_I_nearestFloat_JIJ_58 : decode b_I_nearestFloat_JIJ 58 = .ok (.lload_n 0, 1) := by decide +kernel
theorem d_I_nearestFloat_JIJ_59 : decode b_I_nearestFloat_JIJ 59 = .ok (.ldc2_w 11, 3) := by decide +kernel
theorem d_I_nearestFloat_JIJ_62 : decode b_I_nearestFloat_JIJ 62 = .ok (.lor, 1) := by decide +kernel
theorem d_I_nearestFloat_JIJ_63 : decode b_I_nearestFloat_JIJ 63 = .ok (.goto 5, 3) := by decide +kernel
theorem d_I_nearestFloat_JIJ_66 : decode b_I_nearestFloat_JIJ 66 = .ok (.lload 6, 2) := by decide +kernel
theorem d_I_nearestFloat_JIJ_68 : decode b_I_nearestFloat_JIJ 68 = .ok (.lreturn, 1) := by decide +kernel
def f_I_nearestFloat_JIJ (x0 : Int64) (x2 : Int32) (x3 : Int64) : Int64 :=
  let v1 : Int32 := f_jM_max_II ((40 : Int32) - (f_jL_numberOfLeadingZeros_J x3)) ((-149 : Int32) - x2)
  if 0 < v1 then
    let v3 : Int64 := f_I_nearest_JIJ x0 (x2 + v1) (f_I_rounded_JI x3 v1)
    if (lg_cmp (v3 &&& (9223372036854775807 : Int64)) (5183643171103440896 : Int64)) < 0 then
      v3
    else
      x0 ||| (9218868437227405312 : Int64)
  else
    f_I_nearest_JIJ x0 x2 x3
set_option maxHeartbeats 4000000 in
set_option maxRecDepth 100000 in
theorem c_I_nearestFloat_JIJ (l : Launch) (h : Heap) (x0 : Int64) (x2 : Int32) (x3 : Int64) : Met l y_I_nearestFloat_JIJ (gw y_I_nearestFloat_JIJ b_I_nearestFloat_JIJ 8 (some .long)) { frames := 3, cells := 0, slots := 0, locals := 69 } (pu_Pc [.long x0, .int x2, .long x3] h) (pu_Ml (f_I_nearestFloat_JIJ x0 x2 x3) h) 0 0 (fun _ => False) := by
  refine Met.ofW (cc := b_I_nearestFloat_JIJ) (maxL := 8) (ret := (some .long)) (by decide) rfl ?_
  intro p e s m args below meth c s₁ B hml hv
  obtain ⟨rfl, hh⟩ := hv
  subst hh
  have hx := B.exec
  have hb := B.bytes
  have hr := B.returns
  have hts := atoms_spec (ws := (gw y_I_nearestFloat_JIJ b_I_nearestFloat_JIJ 8 (some .long))) B.pre
  have hown : s.vm.findClass "MotionLab$Ieee" = some m.cls := findClass_of_methodNamed B.named
  have hlocks := B.notSynchronized
  have C0 : pu_C p s m _ meth c b_I_nearestFloat_JIJ 8 "MotionLab$Ieee" (some .long) (gw y_I_nearestFloat_JIJ b_I_nearestFloat_JIJ 8 (some .long)) := ⟨hx, hb, hml, hown, hts, hr, hlocks⟩
  have hl := lv_entry ([.long x0, .int x2, .long x3]) (n := 8) (Nat.le_of_ble_eq_true rfl)
  rw [lg_entry_eq]
  generalize (lg_sl ([.long x0, .int x2, .long x3]) ++ List.replicate (8 - (lg_sl ([.long x0, .int x2, .long x3])).length) Slot.unset).toArray = ls at hl ⊢
  have hl : lv_has ls 8 [(0, .long x0), (2, .int x2), (3, .long x3)] := hl
  refine lv_bipush (v := (40 : Int32)) hx hb d_I_nearestFloat_JIJ_0 (by decide) ?_
  refine lv_lload_n hx hb d_I_nearestFloat_JIJ_2 rfl (lv_at hl 2 rfl) ?_
  refine pu_i (As := [.long x3]) (rest := [.int (40 : Int32)]) ⟨hx, hb, hml, hown, hts⟩ (c_jL_numberOfLeadingZeros_J l _ x3) pu_pre (gw_call (k := 1) hts tw_108 tw_109 tw_7 tw_110 (by decide +kernel) rfl rfl ⟨Nat.le_of_ble_eq_true rfl, Nat.le_of_ble_eq_true rfl⟩) rfl hl.1 rfl (Nat.le_of_ble_eq_true rfl) ⟨Nat.zero_le _, Nat.zero_le _⟩ d_I_nearestFloat_JIJ_3 ?_
  refine lv_isub hx hb d_I_nearestFloat_JIJ_6 ?_
  refine lv_sipush (v := (-149 : Int32)) hx hb d_I_nearestFloat_JIJ_7 (by decide) ?_
  refine lv_iload_n hx hb d_I_nearestFloat_JIJ_10 rfl (lv_at hl 1 rfl) ?_
  refine lv_isub hx hb d_I_nearestFloat_JIJ_11 ?_
  refine pu_i (As := [.int ((40 : Int32) - (f_jL_numberOfLeadingZeros_J x3)), .int ((-149 : Int32) - x2)]) (rest := []) ⟨hx, hb, hml, hown, hts⟩ (c_jM_max_II l _ ((40 : Int32) - (f_jL_numberOfLeadingZeros_J x3)) ((-149 : Int32) - x2)) pu_pre (gw_call (k := 2) hts tw_97 tw_98 tw_6 tw_99 (by decide +kernel) rfl rfl ⟨Nat.le_of_ble_eq_true rfl, Nat.le_of_ble_eq_true rfl⟩) rfl hl.1 rfl (Nat.le_of_ble_eq_true rfl) ⟨Nat.zero_le _, Nat.zero_le _⟩ d_I_nearestFloat_JIJ_12 ?_
  refine lv_topi (fun v1 e1 => ?_)
  refine lv_istore (lv' := [(5, .int v1), (0, .long x0), (2, .int x2), (3, .long x3)]) hx hb d_I_nearestFloat_JIJ_15 hl (by decide) rfl (fun ls hl => ?_)
  refine lv_iload hx hb d_I_nearestFloat_JIJ_17 (lv_at hl 0 rfl) ?_
  refine lv_if_gt (tgt := 29) hx hb d_I_nearestFloat_JIJ_19 (by decide) (fun c2 => ?_) (fun c2 => ?_)
  · refine lv_lload_n hx hb d_I_nearestFloat_JIJ_29 rfl (lv_at hl 1 rfl) ?_
    refine lv_iload_n hx hb d_I_nearestFloat_JIJ_30 rfl (lv_at hl 2 rfl) ?_
    refine lv_iload hx hb d_I_nearestFloat_JIJ_31 (lv_at hl 0 rfl) ?_
    refine lv_iadd hx hb d_I_nearestFloat_JIJ_33 ?_
    refine lv_lload_n hx hb d_I_nearestFloat_JIJ_34 rfl (lv_at hl 3 rfl) ?_
    refine lv_iload hx hb d_I_nearestFloat_JIJ_35 (lv_at hl 0 rfl) ?_
    refine pu_l (As := [.long x3, .int v1]) (rest := [.int (x2 + v1), .long x0]) ⟨hx, hb, hml, hown, hts⟩ (c_I_rounded_JI l _ x3 v1) pu_pre (gw_call (k := 2) hts tw_118 tw_119 tw_5 tw_120 (by decide +kernel) rfl rfl ⟨Nat.le_of_ble_eq_true rfl, Nat.le_of_ble_eq_true rfl⟩) rfl hl.1 rfl (Nat.le_of_ble_eq_true rfl) ⟨Nat.zero_le _, Nat.zero_le _⟩ d_I_nearestFloat_JIJ_37 ?_
    refine pu_l (As := [.long x0, .int (x2 + v1), .long (f_I_rounded_JI x3 v1)]) (rest := []) ⟨hx, hb, hml, hown, hts⟩ (c_I_nearest_JIJ l _ x0 (x2 + v1) (f_I_rounded_JI x3 v1)) pu_pre (gw_call (k := 3) hts tw_115 tw_116 tw_5 tw_117 (by decide +kernel) rfl rfl ⟨Nat.le_of_ble_eq_true rfl, Nat.le_of_ble_eq_true rfl⟩) rfl hl.1 rfl (Nat.le_of_ble_eq_true rfl) ⟨Nat.zero_le _, Nat.zero_le _⟩ d_I_nearestFloat_JIJ_40 ?_
    refine lv_topl (fun v3 e3 => ?_)
    refine lv_lstore (lv' := [(6, .long v3), (5, .int v1), (0, .long x0), (2, .int x2), (3, .long x3)]) hx hb d_I_nearestFloat_JIJ_43 hl (by decide) rfl (fun ls hl => ?_)
    refine lv_lload hx hb d_I_nearestFloat_JIJ_45 (lv_at hl 0 rfl) ?_
    refine lv_ldc2 (v := (9223372036854775807 : Int64)) hx hb hown (hts _ (gm tw_84)) d_I_nearestFloat_JIJ_47 ?_
    refine lv_land hx hb d_I_nearestFloat_JIJ_50 ?_
    refine lv_ldc2 (v := (5183643171103440896 : Int64)) hx hb hown (hts _ (gm tw_121)) d_I_nearestFloat_JIJ_51 ?_
    refine W.lcmp hx hb d_I_nearestFloat_JIJ_54 ?_
    refine lv_if_lt (tgt := 66) hx hb d_I_nearestFloat_JIJ_55 (by decide) (fun c4 => ?_) (fun c4 => ?_)
    · refine lv_lload hx hb d_I_nearestFloat_JIJ_66 (lv_at hl 0 rfl) ?_
      exact pu_lret hx hb hr hlocks d_I_nearestFloat_JIJ_68 (by have qe1 := e1.symm; have qe3 := e3.symm; subst qe1 qe3; unfold f_I_nearestFloat_JIJ; exact Eq.symm (Eq.trans (if_pos c2) (if_pos c4)))
    · refine lv_lload_n hx hb d_I_nearestFloat_JIJ_58 rfl (lv_at hl 2 rfl) ?_
      refine lv_ldc2 (v := (9218868437227405312 : Int64)) hx hb hown (hts _ (gm tw_85)) d_I_nearestFloat_JIJ_59 ?_
      refine lv_lor hx hb d_I_nearestFloat_JIJ_62 ?_
      refine lv_goto (tgt := 68) hx hb d_I_nearestFloat_JIJ_63 (by decide) ?_
      exact pu_lret hx hb hr hlocks d_I_nearestFloat_JIJ_68 (by have qe1 := e1.symm; have qe3 := e3.symm; subst qe1 qe3; unfold f_I_nearestFloat_JIJ; exact Eq.symm (Eq.trans (if_pos c2) (if_neg c4)))
  · refine lv_lload_n hx hb d_I_nearestFloat_JIJ_22 rfl (lv_at hl 1 rfl) ?_
    refine lv_iload_n hx hb d_I_nearestFloat_JIJ_23 rfl (lv_at hl 2 rfl) ?_
    refine lv_lload_n hx hb d_I_nearestFloat_JIJ_24 rfl (lv_at hl 3 rfl) ?_
    refine pu_l (As := [.long x0, .int x2, .long x3]) (rest := []) ⟨hx, hb, hml, hown, hts⟩ (c_I_nearest_JIJ l _ x0 x2 x3) pu_pre (gw_call (k := 3) hts tw_115 tw_116 tw_5 tw_117 (by decide +kernel) rfl rfl ⟨Nat.le_of_ble_eq_true rfl, Nat.le_of_ble_eq_true rfl⟩) rfl hl.1 rfl (Nat.le_of_ble_eq_true rfl) ⟨Nat.zero_le _, Nat.zero_le _⟩ d_I_nearestFloat_JIJ_25 ?_
    exact pu_lret hx hb hr hlocks d_I_nearestFloat_JIJ_28 (by have qe1 := e1.symm; subst qe1; unfold f_I_nearestFloat_JIJ; exact Eq.symm (if_neg c2))
-- ===== MotionLab$Ieee.toFloat(J)J
abbrev y_I_toFloat_J : MethodName := ⟨"MotionLab$Ieee", "toFloat", "(J)J"⟩
abbrev b_I_toFloat_J : ByteArray := prog_2_method_23_code
theorem d_I_toFloat_J_0 : decode b_I_toFloat_J 0 = .ok (.lload_n 0, 1) := by decide +kernel
theorem d_I_toFloat_J_1 : decode b_I_toFloat_J 1 = .ok (.invokestatic 35, 3) := by decide +kernel
theorem d_I_toFloat_J_4 : decode b_I_toFloat_J 4 = .ok (.ifCond .ne 8, 3) := by decide +kernel
theorem d_I_toFloat_J_7 : decode b_I_toFloat_J 7 = .ok (.lload_n 0, 1) := by decide +kernel
theorem d_I_toFloat_J_8 : decode b_I_toFloat_J 8 = .ok (.invokestatic 21, 3) := by decide +kernel
theorem d_I_toFloat_J_11 : decode b_I_toFloat_J 11 = .ok (.lreturn, 1) := by decide +kernel
theorem d_I_toFloat_J_12 : decode b_I_toFloat_J 12 = .ok (.lload_n 0, 1) := by decide +kernel
theorem d_I_toFloat_J_13 : decode b_I_toFloat_J 13 = .ok (.ldc2_w 19, 3) := by decide +kernel
theorem d_I_toFloat_J_16 : decode b_I_toFloat_J 16 = .ok (.land, 1) := by decide +kernel
theorem d_I_toFloat_J_17 : decode b_I_toFloat_J 17 = .ok (.lload_n 0, 1) := by decide +kernel
theorem d_I_toFloat_J_18 : decode b_I_toFloat_J 18 = .ok (.invokestatic 41, 3) := by decide +kernel
theorem d_I_toFloat_J_21 : decode b_I_toFloat_J 21 = .ok (.lload_n 0, 1) := by decide +kernel
theorem d_I_toFloat_J_22 : decode b_I_toFloat_J 22 = .ok (.invokestatic 45, 3) := by decide +kernel
theorem d_I_toFloat_J_25 : decode b_I_toFloat_J 25 = .ok (.invokestatic 94, 3) := by decide +kernel
theorem d_I_toFloat_J_28 : decode b_I_toFloat_J 28 = .ok (.lreturn, 1) := by decide +kernel
def f_I_toFloat_J (x0 : Int64) : Int64 :=
  if (f_I_isFinite_J x0) = 0 then
    f_I_told_J x0
  else
    f_I_nearestFloat_JIJ (x0 &&& (-9223372036854775808 : Int64)) (f_I_power_J x0) (f_I_significand_J x0)
set_option maxHeartbeats 4000000 in
set_option maxRecDepth 100000 in
theorem c_I_toFloat_J (l : Launch) (h : Heap) (x0 : Int64) : Met l y_I_toFloat_J (gw y_I_toFloat_J b_I_toFloat_J 2 (some .long)) { frames := 4, cells := 0, slots := 0, locals := 96 } (pu_Pc [.long x0] h) (pu_Ml (f_I_toFloat_J x0) h) 0 0 (fun _ => False) := by
  refine Met.ofW (cc := b_I_toFloat_J) (maxL := 2) (ret := (some .long)) (by decide) rfl ?_
  intro p e s m args below meth c s₁ B hml hv
  obtain ⟨rfl, hh⟩ := hv
  subst hh
  have hx := B.exec
  have hb := B.bytes
  have hr := B.returns
  have hts := atoms_spec (ws := (gw y_I_toFloat_J b_I_toFloat_J 2 (some .long))) B.pre
  have hown : s.vm.findClass "MotionLab$Ieee" = some m.cls := findClass_of_methodNamed B.named
  have hlocks := B.notSynchronized
  have C0 : pu_C p s m _ meth c b_I_toFloat_J 2 "MotionLab$Ieee" (some .long) (gw y_I_toFloat_J b_I_toFloat_J 2 (some .long)) := ⟨hx, hb, hml, hown, hts, hr, hlocks⟩
  have hl := lv_entry ([.long x0]) (n := 2) (Nat.le_of_ble_eq_true rfl)
  rw [lg_entry_eq]
  generalize (lg_sl ([.long x0]) ++ List.replicate (2 - (lg_sl ([.long x0])).length) Slot.unset).toArray = ls at hl ⊢
  have hl : lv_has ls 2 [(0, .long x0)] := hl
  refine lv_lload_n hx hb d_I_toFloat_J_0 rfl (lv_at hl 0 rfl) ?_
  refine pu_i (As := [.long x0]) (rest := []) ⟨hx, hb, hml, hown, hts⟩ (c_I_isFinite_J l _ x0) pu_pre (gw_call (k := 1) hts tw_81 tw_82 tw_5 tw_83 (by decide +kernel) rfl rfl ⟨Nat.le_of_ble_eq_true rfl, Nat.le_of_ble_eq_true rfl⟩) rfl hl.1 rfl (Nat.le_of_ble_eq_true rfl) ⟨Nat.zero_le _, Nat.zero_le _⟩ d_I_toFloat_J_1 ?_
  refine lv_if_ne (tgt := 12) hx hb d_I_toFloat_J_4 (by decide) (fun c1 => ?_) (fun c1 => ?_)
  · refine lv_lload_n hx hb d_I_toFloat_J_12 rfl (lv_at hl 0 rfl) ?_
    refine lv_ldc2 (v := (-9223372036854775808 : Int64)) hx hb hown (hts _ (gm tw_93)) d_I_toFloat_J_13 ?_
    refine lv_land hx hb d_I_toFloat_J_16 ?_
    refine lv_lload_n hx hb d_I_toFloat_J_17 rfl (lv_at hl 0 rfl) ?_
    refine pu_i (As := [.long x0]) (rest := [.long (x0 &&& (-9223372036854775808 : Int64))]) ⟨hx, hb, hml, hown, hts⟩ (c_I_power_J l _ x0) pu_pre (gw_call (k := 1) hts tw_94 tw_95 tw_5 tw_96 (by decide +kernel) rfl rfl ⟨Nat.le_of_ble_eq_true rfl, Nat.le_of_ble_eq_true rfl⟩) rfl hl.1 rfl (Nat.le_of_ble_eq_true rfl) ⟨Nat.zero_le _, Nat.zero_le _⟩ d_I_toFloat_J_18 ?_
    refine lv_lload_n hx hb d_I_toFloat_J_21 rfl (lv_at hl 0 rfl) ?_
    refine pu_l (As := [.long x0]) (rest := [.int (f_I_power_J x0), .long (x0 &&& (-9223372036854775808 : Int64))]) ⟨hx, hb, hml, hown, hts⟩ (c_I_significand_J l _ x0) pu_pre (gw_call (k := 1) hts tw_100 tw_101 tw_5 tw_102 (by decide +kernel) rfl rfl ⟨Nat.le_of_ble_eq_true rfl, Nat.le_of_ble_eq_true rfl⟩) rfl hl.1 rfl (Nat.le_of_ble_eq_true rfl) ⟨Nat.zero_le _, Nat.zero_le _⟩ d_I_toFloat_J_22 ?_
    refine pu_l (As := [.long (x0 &&& (-9223372036854775808 : Int64)), .int (f_I_power_J x0), .long (f_I_significand_J x0)]) (rest := []) ⟨hx, hb, hml, hown, hts⟩ (c_I_nearestFloat_JIJ l _ (x0 &&& (-9223372036854775808 : Int64)) (f_I_power_J x0) (f_I_significand_J x0)) pu_pre (gw_call (k := 3) hts tw_105 tw_106 tw_5 tw_107 (by decide +kernel) rfl rfl ⟨Nat.le_of_ble_eq_true rfl, Nat.le_of_ble_eq_true rfl⟩) rfl hl.1 rfl (Nat.le_of_ble_eq_true rfl) ⟨Nat.zero_le _, Nat.zero_le _⟩ d_I_toFloat_J_25 ?_
    exact pu_lret hx hb hr hlocks d_I_toFloat_J_28 (by exact Eq.symm (if_neg c1))
  · refine lv_lload_n hx hb d_I_toFloat_J_7 rfl (lv_at hl 0 rfl) ?_
    refine pu_l (As := [.long x0]) (rest := []) ⟨hx, hb, hml, hown, hts⟩ (c_I_told_J l _ x0) pu_pre (gw_call (k := 1) hts tw_86 tw_87 tw_5 tw_88 (by decide +kernel) rfl rfl ⟨Nat.le_of_ble_eq_true rfl, Nat.le_of_ble_eq_true rfl⟩) rfl hl.1 rfl (Nat.le_of_ble_eq_true rfl) ⟨Nat.zero_le _, Nat.zero_le _⟩ d_I_toFloat_J_8 ?_
    exact pu_lret hx hb hr hlocks d_I_toFloat_J_11 (by exact Eq.symm (if_pos c1))
-- ===== MotionLab$Plane.isFieldNumber(I)Z
abbrev y_P_isFieldNumber_I : MethodName := ⟨"MotionLab$Plane", "isFieldNumber", "(I)Z"⟩
abbrev b_P_isFieldNumber_I : ByteArray := prog_3_method_4_code
theorem d_P_isFieldNumber_I_0 : decode b_P_isFieldNumber_I 0 = .ok (.iload_n 0, 1) := by decide +kernel
theorem d_P_isFieldNumber_I_1 : decode b_P_isFieldNumber_I 1 = .ok (.ifCond .lt 13, 3) := by decide +kernel
theorem d_P_isFieldNumber_I_4 : decode b_P_isFieldNumber_I 4 = .ok (.iload_n 0, 1) := by decide +kernel
theorem d_P_isFieldNumber_I_5 : decode b_P_isFieldNumber_I 5 = .ok (.bipush 6, 2) := by decide +kernel
theorem d_P_isFieldNumber_I_7 : decode b_P_isFieldNumber_I 7 = .ok (.if_icmp .ge 7, 3) := by decide +kernel
theorem d_P_isFieldNumber_I_10 : decode b_P_isFieldNumber_I 10 = .ok (.iconst 1, 1) := by decide +kernel
theorem d_P_isFieldNumber_I_11 : decode b_P_isFieldNumber_I 11 = .ok (.goto 4, 3) := by decide +kernel
theorem d_P_isFieldNumber_I_14 : decode b_P_isFieldNumber_I 14 = .ok (.iconst 0, 1) := by decide +kernel
theorem d_P_isFieldNumber_I_15 : decode b_P_isFieldNumber_I 15 = .ok (.ireturn, 1) := by decide +kernel
def f_P_isFieldNumber_I (x0 : Int32) : Int32 :=
  if x0 < 0 then
    (0 : Int32)
  else
    if (6 : Int32) ≤ x0 then
      (0 : Int32)
    else
      (1 : Int32)
set_option maxHeartbeats 4000000 in
set_option maxRecDepth 100000 in
theorem c_P_isFieldNumber_I (l : Launch) (h : Heap) (x0 : Int32) : Met l y_P_isFieldNumber_I (gw y_P_isFieldNumber_I b_P_isFieldNumber_I 1 (some .boolean)) { frames := 0, cells := 0, slots := 0, locals := 0 } (pu_Pc [.int x0] h) (pu_Mi (f_P_isFieldNumber_I x0) h) 0 0 (fun _ => False) := by
  refine Met.ofW (cc := b_P_isFieldNumber_I) (maxL := 1) (ret := (some .boolean)) (by decide) rfl ?_
  intro p e s m args below meth c s₁ B hml hv
  obtain ⟨rfl, hh⟩ := hv
  subst hh
  have hx := B.exec
  have hb := B.bytes
  have hr := B.returns
  have hts := atoms_spec (ws := (gw y_P_isFieldNumber_I b_P_isFieldNumber_I 1 (some .boolean))) B.pre
  have hown : s.vm.findClass "MotionLab$Plane" = some m.cls := findClass_of_methodNamed B.named
  have hlocks := B.notSynchronized
  have C0 : pu_C p s m _ meth c b_P_isFieldNumber_I 1 "MotionLab$Plane" (some .boolean) (gw y_P_isFieldNumber_I b_P_isFieldNumber_I 1 (some .boolean)) := ⟨hx, hb, hml, hown, hts, hr, hlocks⟩
  have hl := lv_entry ([.int x0]) (n := 1) (Nat.le_of_ble_eq_true rfl)
  rw [lg_entry_eq]
  generalize (lg_sl ([.int x0]) ++ List.replicate (1 - (lg_sl ([.int x0])).length) Slot.unset).toArray = ls at hl ⊢
  have hl : lv_has ls 1 [(0, .int x0)] := hl
  refine lv_iload_n hx hb d_P_isFieldNumber_I_0 rfl (lv_at hl 0 rfl) ?_
  refine lv_if_lt (tgt := 14) hx hb d_P_isFieldNumber_I_1 (by decide) (fun c1 => ?_) (fun c1 => ?_)
  · refine lv_iconst (v := 0) hx hb d_P_isFieldNumber_I_14 (by decide) ?_
    exact pu_zret hx hb hr rfl hlocks d_P_isFieldNumber_I_15 (by exact Eq.symm (if_pos c1))
  · refine lv_iload_n hx hb d_P_isFieldNumber_I_4 rfl (lv_at hl 0 rfl) ?_
    refine lv_bipush (v := (6 : Int32)) hx hb d_P_isFieldNumber_I_5 (by decide) ?_
    refine lv_icmp_ge (tgt := 14) hx hb d_P_isFieldNumber_I_7 (by decide) (fun c2 => ?_) (fun c2 => ?_)
    · refine lv_iconst (v := 0) hx hb d_P_isFieldNumber_I_14 (by decide) ?_
      exact pu_zret hx hb hr rfl hlocks d_P_isFieldNumber_I_15 (by exact Eq.symm (Eq.trans (if_neg c1) (if_pos c2)))
    · refine lv_iconst (v := 1) hx hb d_P_isFieldNumber_I_10 (by decide) ?_
      refine lv_goto (tgt := 15) hx hb d_P_isFieldNumber_I_11 (by decide) ?_
      exact pu_zret hx hb hr rfl hlocks d_P_isFieldNumber_I_15 (by exact Eq.symm (Eq.trans (if_neg c1) (if_neg c2)))
-- ===== MotionLab$Ieee.ofFloatBits(I)J
abbrev y_I_ofFloatBits_I : MethodName := ⟨"MotionLab$Ieee", "ofFloatBits", "(I)J"⟩
abbrev b_I_ofFloatBits_I : ByteArray := prog_2_method_24_code
theorem d_I_ofFloatBits_I_0 : decode b_I_ofFloatBits_I 0 = .ok (.iload_n 0, 1) := by decide +kernel
theorem d_I_ofFloatBits_I_1 : decode b_I_ofFloatBits_I 1 = .ok (.ldc 97, 2) := by decide +kernel
theorem d_I_ofFloatBits_I_3 : decode b_I_ofFloatBits_I 3 = .ok (.iand, 1) := by decide +kernel
theorem d_I_ofFloatBits_I_4 : decode b_I_ofFloatBits_I 4 = .ok (.i2l, 1) := by decide +kernel
theorem d_I_ofFloatBits_I_5 : decode b_I_ofFloatBits_I 5 = .ok (.bipush 32, 2) := by decide +kernel
theorem d_I_ofFloatBits_I_7 : decode b_I_ofFloatBits_I 7 = .ok (.lshl, 1) := by decide +kernel
theorem d_I_ofFloatBits_I_8 : decode b_I_ofFloatBits_I 8 = .ok (.lstore_n 1, 1) := by decide +kernel
theorem d_I_ofFloatBits_I_9 : decode b_I_ofFloatBits_I 9 = .ok (.iload_n 0, 1) := by decide +kernel
theorem d_I_ofFloatBits_I_10 : decode b_I_ofFloatBits_I 10 = .ok (.ldc 98, 2) := by decide +kernel
theorem d_I_ofFloatBits_I_12 : decode b_I_ofFloatBits_I 12 = .ok (.iand, 1) := by decide +kernel
theorem d_I_ofFloatBits_I_13 : decode b_I_ofFloatBits_I 13 = .ok (.istore_n 3, 1) := by decide +kernel
theorem d_I_ofFloatBits_I_14 : decode b_I_ofFloatBits_I 14 = .ok (.iload_n 3, 1) := by decide +kernel
theorem d_I_ofFloatBits_I_15 : decode b_I_ofFloatBits_I 15 = .ok (.ldc 99, 2) := by decide +kernel
theorem d_I_ofFloatBits_I_17 : decode b_I_ofFloatBits_I 17 = .ok (.if_icmp .lt 21, 3) := by decide +kernel
theorem d_I_ofFloatBits_I_20 : decode b_I_ofFloatBits_I 20 = .ok (.iload_n 3, 1) := by decide +kernel
theorem d_I_ofFloatBits_I_21 : decode b_I_ofFloatBits_I 21 = .ok (.ldc 99, 2) := by decide +kernel
theorem d_I_ofFloatBits_I_23 : decode b_I_ofFloatBits_I 23 = .ok (.if_icmp .ne 11, 3) := by decide +kernel
theorem d_I_ofFloatBits_I_26 : decode b_I_ofFloatBits_I 26 = .ok (.lload_n 1, 1) := by decide +kernel
theorem d_I_ofFloatBits_I_27 : decode b_I_ofFloatBits_I 27 = .ok (.ldc2_w 11, 3) := by decide +kernel
theorem d_I_ofFloatBits_I_30 : decode b_I_ofFloatBits_I 30 = .ok (.lor, 1) := by decide +kernel
theorem d_I_ofFloatBits_I_31 : decode b_I_ofFloatBits_I 31 = .ok (.goto 6, 3) := by decide +kernel
theorem d_I_ofFloatBits_I_34 : decode b_I_ofFloatBits_I 34 = .ok (.ldc2_w 17, 3) := by decide +kernel
theorem d_I_ofFloatBits_I_37 : decode b_I_ofFloatBits_I 37 = .ok (.lreturn, 1) := by decide +kernel
theorem d_I_ofFloatBits_I_38 : decode b_I_ofFloatBits_I 38 = .ok (.iload_n 3, 1) := by decide +kernel
theorem d_I_ofFloatBits_I_39 : decode b_I_ofFloatBits_I 39 = .ok (.bipush 23, 2) := by decide +kernel
theorem d_I_ofFloatBits_I_41 : decode b_I_ofFloatBits_I 41 = .ok (.iushr, 1) := by decide +kernel
theorem d_I_ofFloatBits_I_42 : decode b_I_ofFloatBits_I 42 = .ok (.istore 4, 2) := by decide +kernel
theorem d_I_ofFloatBits_I_44 : decode b_I_ofFloatBits_I 44 = .ok (.iload_n 3, 1) := by decide +kernel
theorem d_I_ofFloatBits_I_45 : decode b_I_ofFloatBits_I 45 = .ok (.ldc 100, 2) := by decide +kernel
theorem d_I_ofFloatBits_I_47 : decode b_I_ofFloatBits_I 47 = .ok (.iand, 1) := by decide +kernel
theorem d_I_ofFloatBits_I_48 : decode b_I_ofFloatBits_I 48 = .ok (.istore 5, 2) := by decide +kernel
theorem d_I_ofFloatBits_I_50 : decode b_I_ofFloatBits_I 50 = .ok (.iload 4, 2) := by decide +kernel
theorem d_I_ofFloatBits_I_52 : decode b_I_ofFloatBits_I 52 = .ok (.ifCond .ne 14, 3) := by decide +kernel
theorem d_I_ofFloatBits_I_55 : decode b_I_ofFloatBits_I 55 = .ok (.lload_n 1, 1) := by decide +kernel
theorem d_I_ofFloatBits_I_56 : decode b_I_ofFloatBits_I 56 = .ok (.sipush (-149), 3) := by decide +kernel
theorem d_I_ofFloatBits_I_59 : decode b_I_ofFloatBits_I 59 = .ok (.iload 5, 2) := by decide +kernel
theorem d_I_ofFloatBits_I_61 : decode b_I_ofFloatBits_I 61 = .ok (.i2l, 1) := by decide +kernel
theorem d_I_ofFloatBits_I_62 : decode b_I_ofFloatBits_I 62 = .ok (.invokestatic 52, 3) := by decide +kernel
theorem d_I_ofFloatBits_I_65 : decode b_I_ofFloatBits_I 65 = .ok (.lreturn, 1) := by decide +kernel
theorem d_I_ofFloatBits_I_66 : decode b_I_ofFloatBits_I 66 = .ok (.lload_n 1, 1) := by decide +kernel
theorem d_I_ofFloatBits_I_67 : decode b_I_ofFloatBits_I 67 = .ok (.sipush (-149), 3) := by decide +kernel
theorem d_I_ofFloatBits_I_70 : decode b_I_ofFloatBits_I 70 = .ok (.iload 4, 2) := by decide +kernel
theorem d_I_ofFloatBits_I_72 : decode b_I_ofFloatBits_I 72 = .ok (.iadd, 1) := by decide +kernel
theorem d_I_ofFloatBits_I_73 : decode b_I_ofFloatBits_I 73 = .ok (.iconst 1, 1) := by decide +kernel
theorem d_I_ofFloatBits_I_74 : decode b_I_ofFloatBits_I 74 = .ok (.isub, 1) := by decide +kernel
theorem d_I_ofFloatBits_I_75 : decode b_I_ofFloatBits_I 75 = .ok (.iload 5, 2) := by decide +kernel
theorem d_I_ofFloatBits_I_77 : decode b_I_ofFloatBits_I 77 = .ok (.ldc 101, 2) := by decide +kernel
theorem d_I_ofFloatBits_I_79 : decode b_I_ofFloatBits_I 79 = .ok (.ior, 1) := by decide +kernel
theorem d_I_ofFloatBits_I_80 : decode b_I_ofFloatBits_I 80 = .ok (.i2l, 1) := by decide +kernel
theorem d_I_ofFloatBits_I_81 : decode b_I_ofFloatBits_I 81 = .ok (.invokestatic 52, 3) := by decide +kernel
theorem d_I_ofFloatBits_I_84 : decode b_I_ofFloatBits_I 84 = .ok (.lreturn, 1) := by decide +kernel
def f_I_ofFloatBits_I (x0 : Int32) : Int64 :=
  let v1 : Int64 := j_shl ((x0 &&& (-2147483648 : Int32)).toInt64) (32 : Int32)
  let v2 : Int32 := x0 &&& (2147483647 : Int32)
  if v2 < (2139095040 : Int32) then
    let v4 : Int32 := j_iushr v2 (23 : Int32)
    let v5 : Int32 := v2 &&& (8388607 : Int32)
    if v4 = 0 then
      f_I_nearest_JIJ v1 (-149 : Int32) (v5.toInt64)
    else
      f_I_nearest_JIJ v1 (((-149 : Int32) + v4) - (1 : Int32)) ((v5 ||| (8388608 : Int32)).toInt64)
  else
    if v2 = (2139095040 : Int32) then
      v1 ||| (9218868437227405312 : Int64)
    else
      (9221120237041090560 : Int64)
set_option maxHeartbeats 4000000 in
set_option maxRecDepth 100000 in
theorem c_I_ofFloatBits_I (l : Launch) (h : Heap) (x0 : Int32) : Met l y_I_ofFloatBits_I (gw y_I_ofFloatBits_I b_I_ofFloatBits_I 6 (some .long)) { frames := 3, cells := 0, slots := 0, locals := 69 } (pu_Pc [.int x0] h) (pu_Ml (f_I_ofFloatBits_I x0) h) 0 0 (fun _ => False) := by
  refine Met.ofW (cc := b_I_ofFloatBits_I) (maxL := 6) (ret := (some .long)) (by decide) rfl ?_
  intro p e s m args below meth c s₁ B hml hv
  obtain ⟨rfl, hh⟩ := hv
  subst hh
  have hx := B.exec
  have hb := B.bytes
  have hr := B.returns
  have hts := atoms_spec (ws := (gw y_I_ofFloatBits_I b_I_ofFloatBits_I 6 (some .long))) B.pre
  have hown : s.vm.findClass "MotionLab$Ieee" = some m.cls := findClass_of_methodNamed B.named
  have hlocks := B.notSynchronized
  have C0 : pu_C p s m _ meth c b_I_ofFloatBits_I 6 "MotionLab$Ieee" (some .long) (gw y_I_ofFloatBits_I b_I_ofFloatBits_I 6 (some .long)) := ⟨hx, hb, hml, hown, hts, hr, hlocks⟩
  have hl := lv_entry ([.int x0]) (n := 6) (Nat.le_of_ble_eq_true rfl)
  rw [lg_entry_eq]
  generalize (lg_sl ([.int x0]) ++ List.replicate (6 - (lg_sl ([.int x0])).length) Slot.unset).toArray = ls at hl ⊢
  have hl : lv_has ls 6 [(0, .int x0)] := hl
  refine lv_iload_n hx hb d_I_ofFloatBits_I_0 rfl (lv_at hl 0 rfl) ?_
  refine lv_ldc (v := (-2147483648 : Int32)) hx hb hown (hts _ (gm tw_145)) d_I_ofFloatBits_I_1 ?_
  refine lv_iand hx hb d_I_ofFloatBits_I_3 ?_
  refine lv_i2l hx hb d_I_ofFloatBits_I_4 rfl ?_
  refine lv_bipush (v := (32 : Int32)) hx hb d_I_ofFloatBits_I_5 (by decide) ?_
  refine lv_lshl (v := j_shl ((x0 &&& (-2147483648 : Int32)).toInt64) (32 : Int32)) hx hb d_I_ofFloatBits_I_7 rfl ?_
  refine lv_topl (fun v1 e1 => ?_)
  refine lv_lstore_n (lv' := [(1, .long v1), (0, .int x0)]) hx hb d_I_ofFloatBits_I_8 rfl hl (by decide) rfl (fun ls hl => ?_)
  refine lv_iload_n hx hb d_I_ofFloatBits_I_9 rfl (lv_at hl 1 rfl) ?_
  refine lv_ldc (v := (2147483647 : Int32)) hx hb hown (hts _ (gm tw_146)) d_I_ofFloatBits_I_10 ?_
  refine lv_iand hx hb d_I_ofFloatBits_I_12 ?_
  refine lv_topi (fun v2 e2 => ?_)
  refine lv_istore_n (lv' := [(3, .int v2), (1, .long v1), (0, .int x0)]) hx hb d_I_ofFloatBits_I_13 rfl hl (by decide) rfl (fun ls hl => ?_)
  refine lv_iload_n hx hb d_I_ofFloatBits_I_14 rfl (lv_at hl 0 rfl) ?_
  refine lv_ldc (v := (2139095040 : Int32)) hx hb hown (hts _ (gm tw_147)) d_I_ofFloatBits_I_15 ?_
  refine lv_icmp_lt (tgt := 38) hx hb d_I_ofFloatBits_I_17 (by decide) (fun c3 => ?_) (fun c3 => ?_)
  · refine lv_iload_n hx hb d_I_ofFloatBits_I_38 rfl (lv_at hl 0 rfl) ?_
    refine lv_bipush (v := (23 : Int32)) hx hb d_I_ofFloatBits_I_39 (by decide) ?_
    refine lv_iushr (v := j_iushr v2 (23 : Int32)) hx hb d_I_ofFloatBits_I_41 rfl ?_
    refine lv_topi (fun v4 e4 => ?_)
    refine lv_istore (lv' := [(4, .int v4), (3, .int v2), (1, .long v1), (0, .int x0)]) hx hb d_I_ofFloatBits_I_42 hl (by decide) rfl (fun ls hl => ?_)
    refine lv_iload_n hx hb d_I_ofFloatBits_I_44 rfl (lv_at hl 1 rfl) ?_
    refine lv_ldc (v := (8388607 : Int32)) hx hb hown (hts _ (gm tw_148)) d_I_ofFloatBits_I_45 ?_
    refine lv_iand hx hb d_I_ofFloatBits_I_47 ?_
    refine lv_topi (fun v5 e5 => ?_)
    refine lv_istore (lv' := [(5, .int v5), (4, .int v4), (3, .int v2), (1, .long v1), (0, .int x0)]) hx hb d_I_ofFloatBits_I_48 hl (by decide) rfl (fun ls hl => ?_)
    refine lv_iload hx hb d_I_ofFloatBits_I_50 (lv_at hl 1 rfl) ?_
    refine lv_if_ne (tgt := 66) hx hb d_I_ofFloatBits_I_52 (by decide) (fun c6 => ?_) (fun c6 => ?_)
    · refine lv_lload_n hx hb d_I_ofFloatBits_I_66 rfl (lv_at hl 3 rfl) ?_
      refine lv_sipush (v := (-149 : Int32)) hx hb d_I_ofFloatBits_I_67 (by decide) ?_
      refine lv_iload hx hb d_I_ofFloatBits_I_70 (lv_at hl 1 rfl) ?_
      refine lv_iadd hx hb d_I_ofFloatBits_I_72 ?_
      refine lv_iconst (v := 1) hx hb d_I_ofFloatBits_I_73 (by decide) ?_
      refine lv_isub hx hb d_I_ofFloatBits_I_74 ?_
      refine lv_iload hx hb d_I_ofFloatBits_I_75 (lv_at hl 0 rfl) ?_
      refine lv_ldc (v := (8388608 : Int32)) hx hb hown (hts _ (gm tw_149)) d_I_ofFloatBits_I_77 ?_
      refine lv_ior hx hb d_I_ofFloatBits_I_79 ?_
      refine lv_i2l hx hb d_I_ofFloatBits_I_80 rfl ?_
      refine pu_l (As := [.long v1, .int (((-149 : Int32) + v4) - (1 : Int32)), .long ((v5 ||| (8388608 : Int32)).toInt64)]) (rest := []) ⟨hx, hb, hml, hown, hts⟩ (c_I_nearest_JIJ l _ v1 (((-149 : Int32) + v4) - (1 : Int32)) ((v5 ||| (8388608 : Int32)).toInt64)) pu_pre (gw_call (k := 3) hts tw_115 tw_116 tw_5 tw_117 (by decide +kernel) rfl rfl ⟨Nat.le_of_ble_eq_true rfl, Nat.le_of_ble_eq_true rfl⟩) rfl hl.1 rfl (Nat.le_of_ble_eq_true rfl) ⟨Nat.zero_le _, Nat.zero_le _⟩ d_I_ofFloatBits_I_81 ?_
      exact pu_lret hx hb hr hlocks d_I_ofFloatBits_I_84 (by have qe1 := e1.symm; have qe2 := e2.symm; have qe4 := e4.symm; have qe5 := e5.symm; subst qe1 qe2 qe4 qe5; exact Eq.symm (Eq.trans (if_pos c3) (if_neg c6)))
    · refine lv_lload_n hx hb d_I_ofFloatBits_I_55 rfl (lv_at hl 3 rfl) ?_
      refine lv_sipush (v := (-149 : Int32)) hx hb d_I_ofFloatBits_I_56 (by decide) ?_
      refine lv_iload hx hb d_I_ofFloatBits_I_59 (lv_at hl 0 rfl) ?_
      refine lv_i2l hx hb d_I_ofFloatBits_I_61 rfl ?_
      refine pu_l (As := [.long v1, .int (-149 : Int32), .long (v5.toInt64)]) (rest := []) ⟨hx, hb, hml, hown, hts⟩ (c_I_nearest_JIJ l _ v1 (-149 : Int32) (v5.toInt64)) pu_pre (gw_call (k := 3) hts tw_115 tw_116 tw_5 tw_117 (by decide +kernel) rfl rfl ⟨Nat.le_of_ble_eq_true rfl, Nat.le_of_ble_eq_true rfl⟩) rfl hl.1 rfl (Nat.le_of_ble_eq_true rfl) ⟨Nat.zero_le _, Nat.zero_le _⟩ d_I_ofFloatBits_I_62 ?_
      exact pu_lret hx hb hr hlocks d_I_ofFloatBits_I_65 (by have qe1 := e1.symm; have qe2 := e2.symm; have qe4 := e4.symm; have qe5 := e5.symm; subst qe1 qe2 qe4 qe5; exact Eq.symm (Eq.trans (if_pos c3) (if_pos c6)))
  · refine lv_iload_n hx hb d_I_ofFloatBits_I_20 rfl (lv_at hl 0 rfl) ?_
    refine lv_ldc (v := (2139095040 : Int32)) hx hb hown (hts _ (gm tw_147)) d_I_ofFloatBits_I_21 ?_
    refine lv_icmp_ne (tgt := 34) hx hb d_I_ofFloatBits_I_23 (by decide) (fun c7 => ?_) (fun c7 => ?_)
    · refine lv_ldc2 (v := (9221120237041090560 : Int64)) hx hb hown (hts _ (gm tw_92)) d_I_ofFloatBits_I_34 ?_
      exact pu_lret hx hb hr hlocks d_I_ofFloatBits_I_37 (by have qe1 := e1.symm; have qe2 := e2.symm; subst qe1 qe2; exact Eq.symm (Eq.trans (if_neg c3) (if_neg c7)))
    · refine lv_lload_n hx hb d_I_ofFloatBits_I_26 rfl (lv_at hl 1 rfl) ?_
      refine lv_ldc2 (v := (9218868437227405312 : Int64)) hx hb hown (hts _ (gm tw_85)) d_I_ofFloatBits_I_27 ?_
      refine lv_lor hx hb d_I_ofFloatBits_I_30 ?_
      refine lv_goto (tgt := 37) hx hb d_I_ofFloatBits_I_31 (by decide) ?_
      exact pu_lret hx hb hr hlocks d_I_ofFloatBits_I_37 (by have qe1 := e1.symm; have qe2 := e2.symm; subst qe1 qe2; exact Eq.symm (Eq.trans (if_neg c3) (if_pos c7)))
-- ===== MotionLab$Ieee.isZero(J)Z
abbrev y_I_isZero_J : MethodName := ⟨"MotionLab$Ieee", "isZero", "(J)Z"⟩
abbrev b_I_isZero_J : ByteArray := prog_2_method_4_code
theorem d_I_isZero_J_0 : decode b_I_isZero_J 0 = .ok (.lload_n 0, 1) := by decide +kernel
theorem d_I_isZero_J_1 : decode b_I_isZero_J 1 = .ok (.ldc2_w 9, 3) := by decide +kernel
theorem d_I_isZero_J_4 : decode b_I_isZero_J 4 = .ok (.land, 1) := by decide +kernel
theorem d_I_isZero_J_5 : decode b_I_isZero_J 5 = .ok (.lconst 0, 1) := by decide +kernel
theorem d_I_isZero_J_6 : decode b_I_isZero_J 6 = .ok (.lcmp, 1) := by decide +kernel
theorem d_I_isZero_J_7 : decode b_I_isZero_J 7 = .ok (.ifCond .ne 7, 3) := by decide +kernel
theorem d_I_isZero_J_10 : decode b_I_isZero_J 10 = .ok (.iconst 1, 1) := by decide +kernel
theorem d_I_isZero_J_11 : decode b_I_isZero_J 11 = .ok (.goto 4, 3) := by decide +kernel
theorem d_I_isZero_J_14 : decode b_I_isZero_J 14 = .ok (.iconst 0, 1) := by decide +kernel
theorem d_I_isZero_J_15 : decode b_I_isZero_J 15 = .ok (.ireturn, 1) := by decide +kernel
def f_I_isZero_J (x0 : Int64) : Int32 :=
  if (lg_cmp (x0 &&& (9223372036854775807 : Int64)) (0 : Int64)) = 0 then
    (1 : Int32)
  else
    (0 : Int32)
set_option maxHeartbeats 4000000 in
set_option maxRecDepth 100000 in
theorem c_I_isZero_J (l : Launch) (h : Heap) (x0 : Int64) : Met l y_I_isZero_J (gw y_I_isZero_J b_I_isZero_J 2 (some .boolean)) { frames := 0, cells := 0, slots := 0, locals := 0 } (pu_Pc [.long x0] h) (pu_Mi (f_I_isZero_J x0) h) 0 0 (fun _ => False) := by
  refine Met.ofW (cc := b_I_isZero_J) (maxL := 2) (ret := (some .boolean)) (by decide) rfl ?_
  intro p e s m args below meth c s₁ B hml hv
  obtain ⟨rfl, hh⟩ := hv
  subst hh
  have hx := B.exec
  have hb := B.bytes
  have hr := B.returns
  have hts := atoms_spec (ws := (gw y_I_isZero_J b_I_isZero_J 2 (some .boolean))) B.pre
  have hown : s.vm.findClass "MotionLab$Ieee" = some m.cls := findClass_of_methodNamed B.named
  have hlocks := B.notSynchronized
  have C0 : pu_C p s m _ meth c b_I_isZero_J 2 "MotionLab$Ieee" (some .boolean) (gw y_I_isZero_J b_I_isZero_J 2 (some .boolean)) := ⟨hx, hb, hml, hown, hts, hr, hlocks⟩
  have hl := lv_entry ([.long x0]) (n := 2) (Nat.le_of_ble_eq_true rfl)
  rw [lg_entry_eq]
  generalize (lg_sl ([.long x0]) ++ List.replicate (2 - (lg_sl ([.long x0])).length) Slot.unset).toArray = ls at hl ⊢
  have hl : lv_has ls 2 [(0, .long x0)] := hl
  refine lv_lload_n hx hb d_I_isZero_J_0 rfl (lv_at hl 0 rfl) ?_
  refine lv_ldc2 (v := (9223372036854775807 : Int64)) hx hb hown (hts _ (gm tw_84)) d_I_isZero_J_1 ?_
  refine lv_land hx hb d_I_isZero_J_4 ?_
  refine lv_lconst (v := (0 : Int64)) hx hb d_I_isZero_J_5 (by decide) ?_
  refine W.lcmp hx hb d_I_isZero_J_6 ?_
  refine lv_if_ne (tgt := 14) hx hb d_I_isZero_J_7 (by decide) (fun c1 => ?_) (fun c1 => ?_)
  · refine lv_iconst (v := 0) hx hb d_I_isZero_J_14 (by decide) ?_
    exact pu_zret hx hb hr rfl hlocks d_I_isZero_J_15 (by exact Eq.symm (if_neg c1))
  · refine lv_iconst (v := 1) hx hb d_I_isZero_J_10 (by decide) ?_
    refine lv_goto (tgt := 15) hx hb d_I_isZero_J_11 (by decide) ?_
    exact pu_zret hx hb hr rfl hlocks d_I_isZero_J_15 (by exact Eq.symm (if_pos c1))
